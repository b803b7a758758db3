/-! what stands alike between the calls, whole -/
def wu_Q2 (σ : wt_St) : Prop := wu_Q1 σ ∧ wu_RM σ
theorem wu_RL_mid {σ σ1 : wt_St} {F : Nat → Nat → Prop} {A : Nat → Prop} (jt : wt_JT σ) (j : wu_Q2 σ) (r0 : wt_RI σ) (f : wt_fr F A σ σ1) (h3 : ∀ k, ¬ F 108 k) (h4 : ∀ i, 108 ≤ i → ¬ A i) : wu_RL σ σ1 := by
  obtain ⟨a, b⟩ := wu_mid j.1.1 j.1.2.1 r0 f h3 h4
  obtain ⟨c, d, e⟩ := wu_midM j.2 r0 f h3 h4
  exact ⟨fun i hi => by rw [f.2 109 (h4 109 (by omega))]; exact jt i hi, by rw [f.1 108 3 (h3 3)]; exact j.1.2.2.1, a, c, b, d, e⟩
theorem wt_made_Q2 (n : Nat) (hn : 4294967297 < n) {σ : wt_St} (hm : wt_made n σ) : wu_Q2 σ := ⟨wt_made_Q1 n hn hm, wt_made_RM n hn hm⟩
theorem wk3_feed (n : Nat) (hn : 4294967297 < n) {σ : wt_St} (x1 x2 x3 x4 x5 : Int32) (v : wt_IV σ) (j : wu_Q2 σ) : wt_H (wp_ap_feed n x1 x2 x3 x4 x5 σ) (fun q => wt_H (wp_md_feed n x1 x2 x3 x4 x5 q.2) (fun r => wu_Q2 r.2)) := by
  intro q hq r hr
  have h1 := wk1_feed n hn x1 x2 x3 x4 x5 v j.1 q hq r hr
  have h2 := wk2_feed n hn x1 x2 x3 x4 x5 v j.2 q hq r hr
  exact ⟨h1, h2⟩
set_option maxHeartbeats 1000000 in
theorem wa3_kase (n : Nat) (hn : 4294967297 < n) {σ : wt_St} (x1 : Int32) (v : wt_IV σ) (ti : (wt_gf σ 1 2).toInt = (wt_gf σ 108 1).toInt) (jt : wt_JT σ) (j : wu_Q2 σ) : wt_H (wp_ap_kase n x1 σ) (fun q => wt_H (wp_md_kase n x1 q.2.2) (fun r => ((q.1 = 1 ∧ wt_gf r.2 108 0 = 1) ∨ (q.1 = 0 ∧ wt_gf r.2 108 0 = 0 ∧ q.2.1 = r.1)) ∧ wu_Q2 r.2)) := by
  intro q hq r hr
  have h1 := wa1_kase n hn x1 v ti jt j.1 q hq r hr
  have h2 := wk2_kase n hn x1 v ti jt j.2 q hq r hr
  exact ⟨h1.1, h1.2, h2⟩
set_option maxHeartbeats 1000000 in
theorem wa3_tongue (n : Nat) (hn : 4294967297 < n) {σ : wt_St} (x1 : Int32) (v : wt_IV σ) (ti : (wt_gf σ 1 2).toInt = (wt_gf σ 108 1).toInt) (jt : wt_JT σ) (j : wu_Q2 σ) : wt_H (wp_ap_tongue n x1 σ) (fun q => wt_H (wp_md_tongue n x1 q.2.2) (fun r => ((q.1 = 1 ∧ wt_gf r.2 108 0 = 1) ∨ (q.1 = 0 ∧ wt_gf r.2 108 0 = 0 ∧ q.2.1 = r.1)) ∧ wu_Q2 r.2)) := by
  intro q hq r hr
  have h1 := wa1_tongue n hn x1 v ti jt j.1 q hq r hr
  have h2 := wk2_tongue n hn x1 v ti jt j.2 q hq r hr
  exact ⟨h1.1, h1.2, h2⟩
set_option maxHeartbeats 1000000 in
theorem wa3_text (n : Nat) (hn : 4294967297 < n) {σ : wt_St} (x1 : Int32) (v : wt_IV σ) (ti : (wt_gf σ 1 2).toInt = (wt_gf σ 108 1).toInt) (jt : wt_JT σ) (j : wu_Q2 σ) : wt_H (wp_ap_text n x1 σ) (fun q => wt_H (wp_md_text n x1 q.2.2) (fun r => ((q.1 = 1 ∧ wt_gf r.2 108 0 = 1) ∨ (q.1 = 0 ∧ wt_gf r.2 108 0 = 0 ∧ q.2.1 = r.1)) ∧ wu_Q2 r.2)) := by
  intro q hq r hr
  have h1 := wa1_text n hn x1 v ti jt j.1 q hq r hr
  have h2 := wk2_text n hn x1 v j.2 q hq r hr
  exact ⟨h1.1, h1.2, h2⟩
set_option maxHeartbeats 1000000 in
theorem wa3_fault (n : Nat) (hn : 4294967297 < n) {σ : wt_St} (v : wt_IV σ) (ti : (wt_gf σ 1 2).toInt = (wt_gf σ 108 1).toInt) (jt : wt_JT σ) (j : wu_Q2 σ) : wt_H (wp_ap_fault n σ) (fun q => wt_H (wp_md_fault n q.2) (fun r => (q.1 = r.1) ∧ wu_Q2 r.2)) := by
  intro q hq r hr
  have h1 := wa1_fault n hn v j.1 q hq r hr
  have h2 := wk2_fault n hn v j.2 q hq r hr
  exact ⟨h1.1, h1.2, h2⟩
set_option maxHeartbeats 1000000 in
theorem wa3_told (n : Nat) (hn : 4294967297 < n) {σ : wt_St} (x1 : Int32) (v : wt_IV σ) (ti : (wt_gf σ 1 2).toInt = (wt_gf σ 108 1).toInt) (jt : wt_JT σ) (j : wu_Q2 σ) : wt_H (wp_ap_told n x1 σ) (fun q => wt_H (wp_md_told n x1 q.2.2) (fun r => ((q.1 = 1 ∧ wt_gf r.2 108 0 = 1) ∨ (q.1 = 0 ∧ wt_gf r.2 108 0 = 0 ∧ q.2.1 = r.1)) ∧ wu_Q2 r.2)) := by
  intro q hq r hr
  have h1 := wk1_told n hn x1 v j.1 q hq r hr
  have h2 := wk2_told n hn x1 v j.2 q hq r hr
  obtain ⟨q', hq', hfq⟩ := wq_ap_told n hn x1 σ
  rw [hq] at hq'
  cases hq'
  have fq := (by rw [hfq.1]; exact wt_fr.rf : wt_fr (fun _ _ => False) (fun _ => False) σ q.2.2)
  have v2 : wt_IV q.2.2 := wt_IV_cls v fq (fun k => (by (try dsimp only); first | omega | exact fun h => h)) (fun i hi => (by (try dsimp only); first | omega | exact fun h => h))
  have rl := wu_RL_mid jt j v.1 fq (fun k => by (try dsimp only); first | omega | exact fun h => h) (fun i h => by (try dsimp only); first | omega | exact fun h => h)
  exact ⟨wr_told n hn rl q r hq hr, h1, h2⟩
set_option maxHeartbeats 1000000 in
theorem wa3_letter (n : Nat) (hn : 4294967297 < n) {σ : wt_St} (x1 x2 : Int32) (v : wt_IV σ) (ti : (wt_gf σ 1 2).toInt = (wt_gf σ 108 1).toInt) (jt : wt_JT σ) (j : wu_Q2 σ) : wt_H (wp_ap_letter n x1 x2 σ) (fun q => wt_H (wp_md_letter n x1 x2 q.2.2) (fun r => ((q.1 = 1 ∧ wt_gf r.2 108 0 = 1) ∨ (q.1 = 0 ∧ wt_gf r.2 108 0 = 0 ∧ q.2.1 = r.1)) ∧ wu_Q2 r.2)) := by
  intro q hq r hr
  have h1 := wk1_letter n hn x1 x2 v j.1 q hq r hr
  have h2 := wk2_letter n hn x1 x2 v j.2 q hq r hr
  obtain ⟨q', hq', hfq⟩ := wq_ap_letter n hn x1 x2 σ
  rw [hq] at hq'
  cases hq'
  have fq := (by rw [hfq.1]; exact wt_fr.rf : wt_fr (fun _ _ => False) (fun _ => False) σ q.2.2)
  have v2 : wt_IV q.2.2 := wt_IV_cls v fq (fun k => (by (try dsimp only); first | omega | exact fun h => h)) (fun i hi => (by (try dsimp only); first | omega | exact fun h => h))
  have rl := wu_RL_mid jt j v.1 fq (fun k => by (try dsimp only); first | omega | exact fun h => h) (fun i h => by (try dsimp only); first | omega | exact fun h => h)
  exact ⟨wr_letterQ n hn v2 rl q r hq hr, h1, h2⟩
set_option maxHeartbeats 1000000 in
theorem wa3_piece (n : Nat) (hn : 4294967297 < n) {σ : wt_St} (x1 x2 x3 : Int32) (v : wt_IV σ) (ti : (wt_gf σ 1 2).toInt = (wt_gf σ 108 1).toInt) (jt : wt_JT σ) (j : wu_Q2 σ) : wt_H (wp_ap_piece n x1 x2 x3 σ) (fun q => wt_H (wp_md_piece n x1 x2 x3 q.2.2) (fun r => ((q.1 = 3 ∧ wt_gf r.2 108 0 = 1) ∨ (q.1 = 1 ∧ wt_gf r.2 108 0 = 2) ∨ (q.1 = 0 ∧ wt_gf r.2 108 0 = 0 ∧ q.2.1 = r.1)) ∧ wu_Q2 r.2)) := by
  intro q hq r hr
  have h1 := wk1_piece n hn x1 x2 x3 v j.1 q hq r hr
  have h2 := wk2_piece n hn x1 x2 x3 v j.2 q hq r hr
  obtain ⟨q', hq', hfq⟩ := wq_ap_piece n hn x1 x2 x3 σ
  rw [hq] at hq'
  cases hq'
  have fq := (by rw [hfq.1]; exact wt_fr.rf : wt_fr (fun _ _ => False) (fun _ => False) σ q.2.2)
  have v2 : wt_IV q.2.2 := wt_IV_cls v fq (fun k => (by (try dsimp only); first | omega | exact fun h => h)) (fun i hi => (by (try dsimp only); first | omega | exact fun h => h))
  have rl := wu_RL_mid jt j v.1 fq (fun k => by (try dsimp only); first | omega | exact fun h => h) (fun i h => by (try dsimp only); first | omega | exact fun h => h)
  exact ⟨wr_piece n hn v2 rl q r hq hr, h1, h2⟩
set_option maxHeartbeats 1000000 in
theorem wa3_word (n : Nat) (hn : 4294967297 < n) {σ : wt_St} (x1 x2 : Int32) (v : wt_IV σ) (ti : (wt_gf σ 1 2).toInt = (wt_gf σ 108 1).toInt) (jt : wt_JT σ) (j : wu_Q2 σ) : wt_H (wp_ap_word n x1 x2 σ) (fun q => wt_H (wp_md_word n x1 x2 q.2.2) (fun r => ((q.1 = 2 ∧ wt_gf r.2 108 0 = 1) ∨ (q.1 = 1 ∧ wt_gf r.2 108 0 = 2) ∨ (q.1 = 0 ∧ wt_gf r.2 108 0 = 0 ∧ q.2.1 = r.1)) ∧ wu_Q2 r.2)) := by
  intro q hq r hr
  have h1 := wk1_word n hn x1 x2 v j.1 q hq r hr
  have h2 := wk2_word n hn x1 x2 v j.2 q hq r hr
  obtain ⟨q', hq', hfq⟩ := wq_ap_word n hn x1 x2 σ
  rw [hq] at hq'
  cases hq'
  have fq := hfq.1
  have v2 : wt_IV q.2.2 := wt_IV_cls v fq (fun k => (by (try dsimp only); first | omega | exact fun h => h)) (fun i hi => (by (try dsimp only); first | omega | exact fun h => h))
  have rl := wu_RL_mid jt j v.1 fq (fun k => by (try dsimp only); first | omega | exact fun h => h) (fun i h => by (try dsimp only); first | omega | exact fun h => h)
  exact ⟨wr_word n hn v2 rl q r hq hr, h1, h2⟩
set_option maxHeartbeats 1000000 in
theorem wa3_at (n : Nat) (hn : 4294967297 < n) {σ : wt_St} (x1 x2 : Int32) (v : wt_IV σ) (ti : (wt_gf σ 1 2).toInt = (wt_gf σ 108 1).toInt) (jt : wt_JT σ) (j : wu_Q2 σ) : wt_H (wp_ap_at n x1 x2 σ) (fun q => wt_H (wp_md_at n x1 x2 q.2.2) (fun r => ((q.1 = 2 ∧ wt_gf r.2 108 0 = 1) ∨ (q.1 = 0 ∧ wt_gf r.2 108 0 = 0 ∧ q.2.1 = r.1)) ∧ wu_Q2 r.2)) := by
  intro q hq r hr
  have h1 := wa1_at n hn x1 x2 v j.1 q hq r hr
  have h2 := wk2_at n hn x1 x2 v j.2 q hq r hr
  exact ⟨h1.1, h1.2, h2⟩
theorem wk3_needs (n : Nat) (hn : 4294967297 < n) {σ : wt_St} (x1 x2 : Int32) (v : wt_IV σ) (j : wu_Q2 σ) : wt_H (wp_ap_needs n x1 x2 σ) (fun q => wt_H (wp_md_needs n x1 x2 q.2.2) (fun r => wu_Q2 r.2)) := by
  intro q hq r hr
  have h1 := wk1_needs n hn x1 x2 v j.1 q hq r hr
  have h2 := wk2_needs n hn x1 x2 v j.2 q hq r hr
  exact ⟨h1, h2⟩
set_option maxHeartbeats 1000000 in
theorem wa3_habit (n : Nat) (hn : 4294967297 < n) {σ : wt_St} (x1 : Int32) (v : wt_IV σ) (ti : (wt_gf σ 1 2).toInt = (wt_gf σ 108 1).toInt) (jt : wt_JT σ) (j : wu_Q2 σ) : wt_H (wp_ap_habit n x1 σ) (fun q => wt_H (wp_md_habit n x1 q.2.2) (fun r => ((q.1 = 1 ∧ wt_gf r.2 108 0 = 1) ∨ (q.1 = 0 ∧ wt_gf r.2 108 0 = 0 ∧ q.2.1 = r.1)) ∧ wu_Q2 r.2)) := by
  intro q hq r hr
  have h1 := wk1_habit n hn x1 v j.1 q hq r hr
  have h2 := wa2_habit n hn x1 v j.2 q hq r hr
  exact ⟨h2.1, h1, h2.2⟩
set_option maxHeartbeats 1000000 in
theorem wa3_can (n : Nat) (hn : 4294967297 < n) {σ : wt_St} (x1 : Int32) (v : wt_IV σ) (ti : (wt_gf σ 1 2).toInt = (wt_gf σ 108 1).toInt) (jt : wt_JT σ) (j : wu_Q2 σ) : wt_H (wp_ap_can n x1 σ) (fun q => wt_H (wp_md_can n x1 q.2.2) (fun r => ((q.1 = 2 ∧ wt_gf r.2 108 0 = 1) ∨ (q.1 = 0 ∧ wt_gf r.2 108 0 = 0 ∧ q.2.1 = r.1)) ∧ wu_Q2 r.2)) := by
  intro q hq r hr
  have h1 := wk1_can n hn x1 v j.1 q hq r hr
  have h2 := wk2_can n hn x1 v j.2 q hq r hr
  obtain ⟨q', hq', hfq⟩ := wq_ap_can n hn x1 σ
  rw [hq] at hq'
  cases hq'
  have fq := hfq.1
  have v2 : wt_IV q.2.2 := wt_IV_cls v fq (fun k => (by (try dsimp only); first | omega | exact fun h => h)) (fun i hi => (by (try dsimp only); first | omega | exact fun h => h))
  have rl := wu_RL_mid jt j v.1 fq (fun k => by (try dsimp only); first | omega | exact fun h => h) (fun i h => by (try dsimp only); first | omega | exact fun h => h)
  exact ⟨wr_can n hn v2 rl q r hq hr, h1, h2⟩
set_option maxHeartbeats 1000000 in
theorem wa3_lacks (n : Nat) (hn : 4294967297 < n) {σ : wt_St} (x1 x2 : Int32) (v : wt_IV σ) (ti : (wt_gf σ 1 2).toInt = (wt_gf σ 108 1).toInt) (jt : wt_JT σ) (j : wu_Q2 σ) : wt_H (wp_ap_lacks n x1 x2 σ) (fun q => wt_H (wp_md_lacks n x1 x2 q.2.2) (fun r => ((q.1 = 2 ∧ wt_gf r.2 108 0 = 1) ∨ (q.1 = 1 ∧ wt_gf r.2 108 0 = 2) ∨ (q.1 = 0 ∧ wt_gf r.2 108 0 = 0 ∧ q.2.1 = r.1)) ∧ wu_Q2 r.2)) := by
  intro q hq r hr
  have h1 := wk1_lacks n hn x1 x2 v j.1 q hq r hr
  have h2 := wk2_lacks n hn x1 x2 v j.2 q hq r hr
  obtain ⟨q', hq', hfq⟩ := wq_ap_lacks n hn x1 x2 σ
  rw [hq] at hq'
  cases hq'
  have fq := hfq.1
  have v2 : wt_IV q.2.2 := wt_IV_cls v fq (fun k => (by (try dsimp only); first | omega | exact fun h => h)) (fun i hi => (by (try dsimp only); first | omega | exact fun h => h))
  have rl := wu_RL_mid jt j v.1 fq (fun k => by (try dsimp only); first | omega | exact fun h => h) (fun i h => by (try dsimp only); first | omega | exact fun h => h)
  exact ⟨wr_lacks n hn v2 rl q r hq hr, h1, h2⟩
set_option maxHeartbeats 1000000 in
theorem wa3_set (n : Nat) (hn : 4294967297 < n) {σ : wt_St} (x1 x2 : Int32) (v : wt_IV σ) (ti : (wt_gf σ 1 2).toInt = (wt_gf σ 108 1).toInt) (jt : wt_JT σ) (j : wu_Q2 σ) : wt_H (wp_ap_set n x1 x2 σ) (fun q => wt_H (wp_md_set n x1 x2 q.2.2) (fun r => ((q.1 = 2 ∧ wt_gf r.2 108 0 = 1) ∨ (q.1 = 1 ∧ wt_gf r.2 108 0 = 2) ∨ (q.1 = 0 ∧ wt_gf r.2 108 0 = 0 ∧ q.2.1 = r.1)) ∧ wu_Q2 r.2)) := by
  intro q hq r hr
  have h1 := wk1_set n hn x1 x2 v j.1 q hq r hr
  have h2 := wa2_set n hn x1 x2 v j.1.1 j.1.2.1 j.2 q hq r hr
  exact ⟨h2.1, h1, h2.2⟩
set_option maxHeartbeats 1000000 in
theorem wa3_print (n : Nat) (hn : 4294967297 < n) {σ : wt_St} (x1 x2 : Int32) (v : wt_IV σ) (ti : (wt_gf σ 1 2).toInt = (wt_gf σ 108 1).toInt) (jt : wt_JT σ) (j : wu_Q2 σ) : wt_H (wp_ap_print n x1 x2 σ) (fun q => wt_H (wp_md_print n x1 x2 q.2.2) (fun r => ((q.1 = 2 ∧ wt_gf r.2 108 0 = 1) ∨ (q.1 = 1 ∧ wt_gf r.2 108 0 = 2) ∨ (q.1 = 0 ∧ wt_gf r.2 108 0 = 0 ∧ q.2.1 = r.1)) ∧ wu_Q2 r.2)) := by
  intro q hq r hr
  have h1 := wk1_print n hn x1 x2 v j.1 q hq r hr
  have h2 := wa2_print n hn x1 x2 v j.2 q hq r hr
  exact ⟨h2.1, h1, h2.2⟩
set_option maxHeartbeats 1000000 in
theorem wa3_apart (n : Nat) (hn : 4294967297 < n) {σ : wt_St} (x1 : Int32) (v : wt_IV σ) (ti : (wt_gf σ 1 2).toInt = (wt_gf σ 108 1).toInt) (jt : wt_JT σ) (j : wu_Q2 σ) : wt_H (wp_ap_apart n x1 σ) (fun q => wt_H (wp_md_apart n x1 q.2.2) (fun r => ((q.1 = 2 ∧ wt_gf r.2 108 0 = 1) ∨ (q.1 = 0 ∧ wt_gf r.2 108 0 = 0 ∧ q.2.1 = r.1)) ∧ wu_Q2 r.2)) := by
  intro q hq r hr
  have h1 := wk1_apart n hn x1 v j.1 q hq r hr
  have h2 := wa2_apart n hn x1 v j.2 q hq r hr
  exact ⟨h2.1, h1, h2.2⟩
set_option maxHeartbeats 1000000 in
theorem wa3_page (n : Nat) (hn : 4294967297 < n) {σ : wt_St} (x1 x2 : Int32) (v : wt_IV σ) (ti : (wt_gf σ 1 2).toInt = (wt_gf σ 108 1).toInt) (jt : wt_JT σ) (j : wu_Q2 σ) : wt_H (wp_ap_page n x1 x2 σ) (fun q => wt_H (wp_md_page n x1 x2 q.2.2) (fun r => ((q.1 = 2 ∧ wt_gf r.2 108 0 = 1) ∨ (q.1 = 1 ∧ wt_gf r.2 108 0 = 2) ∨ (q.1 = 0 ∧ wt_gf r.2 108 0 = 0 ∧ q.2.1 = r.1)) ∧ wu_Q2 r.2)) := by
  intro q hq r hr
  have h1 := wk1_page n hn x1 x2 v j.1 q hq r hr
  have h2 := wk2_page n hn x1 x2 v j.2 q hq r hr
  obtain ⟨q', hq', hfq⟩ := wq_ap_page n hn x1 x2 σ
  rw [hq] at hq'
  cases hq'
  have fq := hfq.1
  have v2 : wt_IV q.2.2 := wt_IV_cls v fq (fun k => (by (try dsimp only); first | omega | exact fun h => h)) (fun i hi => (by (try dsimp only); first | omega | exact fun h => h))
  have rl := wu_RL_mid jt j v.1 fq (fun k => by (try dsimp only); first | omega | exact fun h => h) (fun i h => by (try dsimp only); first | omega | exact fun h => h)
  exact ⟨wr_page n hn v2 rl q r hq hr, h1, h2⟩
set_option maxHeartbeats 1000000 in
theorem wa3_read (n : Nat) (hn : 4294967297 < n) {σ : wt_St} (x1 x2 : Int32) (v : wt_IV σ) (ti : (wt_gf σ 1 2).toInt = (wt_gf σ 108 1).toInt) (jt : wt_JT σ) (j : wu_Q2 σ) : wt_H (wp_ap_read n x1 x2 σ) (fun q => wt_H (wp_md_read n x1 x2 q.2.2) (fun r => ((q.1 = 2 ∧ wt_gf r.2 108 0 = 1) ∨ (q.1 = 0 ∧ wt_gf r.2 108 0 = 0 ∧ q.2.1 = r.1)) ∧ wu_Q2 r.2)) := by
  intro q hq r hr
  have h1 := wk1_read n hn x1 x2 v j.1 q hq r hr
  have h2 := wk2_read n hn x1 x2 v j.2 q hq r hr
  obtain ⟨q', hq', hfq⟩ := wq_ap_read n hn x1 x2 σ
  rw [hq] at hq'
  cases hq'
  have fq := hfq.1
  have v2 : wt_IV q.2.2 := wt_IV_cls v fq (fun k => (by (try dsimp only); first | omega | exact fun h => h)) (fun i hi => (by (try dsimp only); first | omega | exact fun h => h))
  have rl := wu_RL_mid jt j v.1 fq (fun k => by (try dsimp only); first | omega | exact fun h => h) (fun i h => by (try dsimp only); first | omega | exact fun h => h)
  exact ⟨wr_read n hn v2 rl q r hq hr, h1, h2⟩
theorem wk3_least (n : Nat) (hn : 4294967297 < n) {σ : wt_St} (x1 x2 x3 : Int32) (v : wt_IV σ) (j : wu_Q2 σ) : wt_H (wp_ap_least n x1 x2 x3 σ) (fun q => wt_H (wp_md_least n x1 x2 x3 q.2.2) (fun r => wu_Q2 r.2)) := by
  intro q hq r hr
  have h1 := wk1_least n hn x1 x2 x3 v j.1 q hq r hr
  have h2 := wk2_least n hn x1 x2 x3 v j.2 q hq r hr
  exact ⟨h1, h2⟩
theorem wk3_fitting (n : Nat) (hn : 4294967297 < n) {σ : wt_St} (x1 x2 x3 x4 : Int32) (v : wt_IV σ) (j : wu_Q2 σ) : wt_H (wp_ap_fitting n x1 x2 x3 x4 σ) (fun q => wt_H (wp_md_fitting n x1 x2 x3 x4 q.2.2) (fun r => wu_Q2 r.2)) := by
  intro q hq r hr
  have h1 := wk1_fitting n hn x1 x2 x3 x4 v j.1 q hq r hr
  have h2 := wk2_fitting n hn x1 x2 x3 x4 v j.2 q hq r hr
  exact ⟨h1, h2⟩
theorem wk3_wordings (n : Nat) (hn : 4294967297 < n) {σ : wt_St} (x1 : Int32) (v : wt_IV σ) (j : wu_Q2 σ) : wt_H (wp_ap_wordings n x1 σ) (fun q => wt_H (wp_md_wordings n x1 q.2.2) (fun r => wu_Q2 r.2)) := by
  intro q hq r hr
  have h1 := wk1_wordings n hn x1 v j.1 q hq r hr
  have h2 := wk2_wordings n hn x1 v j.2 q hq r hr
  exact ⟨h1, h2⟩
set_option maxHeartbeats 1000000 in
theorem wa3_want (n : Nat) (hn : 4294967297 < n) {σ : wt_St} (x1 x2 x3 x4 : Int32) (v : wt_IV σ) (ti : (wt_gf σ 1 2).toInt = (wt_gf σ 108 1).toInt) (jt : wt_JT σ) (j : wu_Q2 σ) : wt_H (wp_ap_want n x1 x2 x3 x4 σ) (fun q => wt_H (wp_md_want n x1 x2 x3 x4 q.2.2) (fun r => ((q.1 = 2 ∧ wt_gf r.2 108 0 = 1) ∨ (q.1 = 1 ∧ wt_gf r.2 108 0 = 2) ∨ (q.1 = 0 ∧ wt_gf r.2 108 0 = 0 ∧ q.2.1 = r.1)) ∧ wu_Q2 r.2)) := by
  intro q hq r hr
  have h1 := wk1_want n hn x1 x2 x3 x4 v j.1 q hq r hr
  have h2 := wa2_want n hn x1 x2 x3 x4 v j.1.2.1 j.2 q hq r hr
  exact ⟨h2.1, h1, h2.2⟩
set_option maxHeartbeats 1000000 in
theorem wa3_forget (n : Nat) (hn : 4294967297 < n) {σ : wt_St} (v : wt_IV σ) (ti : (wt_gf σ 1 2).toInt = (wt_gf σ 108 1).toInt) (jt : wt_JT σ) (j : wu_Q2 σ) : wt_H (wp_ap_forget n σ) (fun q => wt_H (wp_md_forget n q.2) (fun r => (q.1 = r.1) ∧ wu_Q2 r.2)) := by
  intro q hq r hr
  have h1 := wk1_forget n hn v j.1 q hq r hr
  have h2 := wa2_forget n hn v j.2 q hq r hr
  exact ⟨h2.1, h1, h2.2⟩
theorem wk3_most (n : Nat) (hn : 4294967297 < n) {σ : wt_St} (x1 : Int32) (v : wt_IV σ) (j : wu_Q2 σ) : wt_H (wp_ap_most n x1 σ) (fun q => wt_H (wp_md_most n x1 q.2.2) (fun r => wu_Q2 r.2)) := by
  intro q hq r hr
  have h1 := wk1_most n hn x1 v j.1 q hq r hr
  have h2 := wk2_most n hn x1 v j.2 q hq r hr
  exact ⟨h1, h2⟩
theorem wk3_greedy (n : Nat) (hn : 4294967297 < n) {σ : wt_St} (x1 : Int32) (v : wt_IV σ) (j : wu_Q2 σ) : wt_H (wp_ap_greedy n x1 σ) (fun q => wt_H (wp_md_greedy n x1 q.2.2) (fun r => wu_Q2 r.2)) := by
  intro q hq r hr
  have h1 := wk1_greedy n hn x1 v j.1 q hq r hr
  have h2 := wk2_greedy n hn x1 v j.2 q hq r hr
  exact ⟨h1, h2⟩
theorem wk3_bound (n : Nat) (hn : 4294967297 < n) {σ : wt_St} (v : wt_IV σ) (j : wu_Q2 σ) : wt_H (wp_ap_bound n σ) (fun q => wt_H (wp_md_bound n q.2) (fun r => wu_Q2 r.2)) := by
  intro q hq r hr
  have h1 := wk1_bound n hn v j.1 q hq r hr
  have h2 := wk2_bound n hn v j.2 q hq r hr
  exact ⟨h1, h2⟩
theorem wk3_said (n : Nat) (hn : 4294967297 < n) {σ : wt_St} (x1 x2 : Int32) (v : wt_IV σ) (j : wu_Q2 σ) : wt_H (wp_ap_said n x1 x2 σ) (fun q => wt_H (wp_md_said n x1 x2 q.2.2) (fun r => wu_Q2 r.2)) := by
  intro q hq r hr
  have h1 := wk1_said n hn x1 x2 v j.1 q hq r hr
  have h2 := wk2_said n hn x1 x2 v j.2 q hq r hr
  exact ⟨h1, h2⟩
theorem wk3_lost (n : Nat) (hn : 4294967297 < n) {σ : wt_St} (x1 : Int32) (v : wt_IV σ) (j : wu_Q2 σ) : wt_H (wp_ap_lost n x1 σ) (fun q => wt_H (wp_md_lost n x1 q.2.2) (fun r => wu_Q2 r.2)) := by
  intro q hq r hr
  have h1 := wk1_lost n hn x1 v j.1 q hq r hr
  have h2 := wk2_lost n hn x1 v j.2 q hq r hr
  exact ⟨h1, h2⟩
theorem wk3_ends (n : Nat) (hn : 4294967297 < n) {σ : wt_St} (x1 : Int32) (v : wt_IV σ) (j : wu_Q2 σ) : wt_H (wp_ap_ends n x1 σ) (fun q => wt_H (wp_md_ends n x1 q.2.2) (fun r => wu_Q2 r.2)) := by
  intro q hq r hr
  have h1 := wk1_ends n hn x1 v j.1 q hq r hr
  have h2 := wk2_ends n hn x1 v j.2 q hq r hr
  exact ⟨h1, h2⟩
theorem wk3_exchange (n : Nat) (hn : 4294967297 < n) {σ : wt_St} (x1 : Int32) (v : wt_IV σ) (j : wu_Q2 σ) : wt_H (wp_ap_exchange n x1 σ) (fun q => wt_H (wp_md_exchange n x1 q.2.2) (fun r => wu_Q2 r.2)) := by
  intro q hq r hr
  have h1 := wk1_exchange n hn x1 v j.1 q hq r hr
  have h2 := wk2_exchange n hn x1 v j.2 q hq r hr
  exact ⟨h1, h2⟩
theorem wk3_cast (n : Nat) (hn : 4294967297 < n) {σ : wt_St} (x1 x2 : Int32) (v : wt_IV σ) (j : wu_Q2 σ) : wt_H (wp_ap_cast n x1 x2 σ) (fun q => wt_H (wp_md_cast n x1 x2 q.2.2) (fun r => wu_Q2 r.2)) := by
  intro q hq r hr
  have h1 := wk1_cast n hn x1 x2 v j.1 q hq r hr
  have h2 := wk2_cast n hn x1 x2 v j.2 q hq r hr
  exact ⟨h1, h2⟩
theorem wk3_together (n : Nat) (hn : 4294967297 < n) {σ : wt_St} (x1 : Int32) (v : wt_IV σ) (j : wu_Q2 σ) : wt_H (wp_ap_together n x1 σ) (fun q => wt_H (wp_md_together n x1 q.2.2) (fun r => wu_Q2 r.2)) := by
  intro q hq r hr
  have h1 := wk1_together n hn x1 v j.1 q hq r hr
  have h2 := wk2_together n hn x1 v j.2 q hq r hr
  exact ⟨h1, h2⟩
set_option maxHeartbeats 1000000 in
theorem wa3_image (n : Nat) (hn : 4294967297 < n) {σ : wt_St} (v : wt_IV σ) (ti : (wt_gf σ 1 2).toInt = (wt_gf σ 108 1).toInt) (jt : wt_JT σ) (j : wu_Q2 σ) : wt_H (wp_ap_image n σ) (fun q => wt_H (wp_md_image n q.2) (fun r => (q.1 = r.1) ∧ wu_Q2 r.2)) := by
  intro q hq r hr
  have h1 := wa1_image n hn v j.1 q hq r hr
  have h2 := wk2_image n hn v j.2 q hq r hr
  exact ⟨h1.1, h1.2, h2⟩
set_option maxHeartbeats 1000000 in
theorem wa3_restore (n : Nat) (hn : 4294967297 < n) {σ : wt_St} (v : wt_IV σ) (ti : (wt_gf σ 1 2).toInt = (wt_gf σ 108 1).toInt) (jt : wt_JT σ) (j : wu_Q2 σ) : wt_H (wp_ap_restore n σ) (fun q => wt_H (wp_md_restore n q.2) (fun r => (q.1 = r.1) ∧ wu_Q2 r.2)) := by
  intro q hq r hr
  have h1 := wa1_restore n hn v j.1 q hq r hr
  have h2 := wk2_restore n hn v j.2 q hq r hr
  exact ⟨h1.1, h1.2, h2⟩
set_option maxHeartbeats 1000000 in
theorem wa3_count (n : Nat) (hn : 4294967297 < n) {σ : wt_St} (x1 : Int32) (v : wt_IV σ) (ti : (wt_gf σ 1 2).toInt = (wt_gf σ 108 1).toInt) (jt : wt_JT σ) (j : wu_Q2 σ) : wt_H (wp_ap_count n x1 σ) (fun q => wt_H (wp_md_count n x1 q.2) (fun r => (q.1 = r.1) ∧ wu_Q2 r.2)) := by
  intro q hq r hr
  have h1 := wa1_count n hn x1 v ti j.1 q hq r hr
  have h2 := wk2_count n hn x1 v j.2 q hq r hr
  exact ⟨h1.1, h1.2, h2⟩
