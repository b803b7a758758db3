def wt_Inv3 (σ : wt_St) : Prop := wt_Inv σ ∧ wt_JT σ
def wt_Inv4 (σ : wt_St) : Prop := wt_Inv3 σ ∧ wu_Q2 σ
set_option maxHeartbeats 4000000 in
theorem wq_P_feed (n : Nat) (hn : 4294967297 < n) : wt_P_feed n wt_Inv4 := by
  intro σ x1 x2 x3 x4 x5 hI
  obtain ⟨q, hq, r, hr, hv⟩ := wq_C_feed n hn σ x1 x2 x3 x4 x5 hI.1.1
  have hj := wj_feed n hn x1 x2 x3 x4 x5 hI.1.1.1 hI.1.1.2 hI.1.2 q hq r hr
  have hk := wk3_feed n hn x1 x2 x3 x4 x5 hI.1.1.1 hI.2 q hq r hr
  exact ⟨q, hq, r, hr, ⟨⟨hv, hj.2⟩, hk⟩⟩
set_option maxHeartbeats 4000000 in
theorem wq_P_kase (n : Nat) (hn : 4294967297 < n) : wt_P_kase n wt_Inv4 := by
  intro σ x1 hI
  obtain ⟨q, hq, hx, r, hr, hv⟩ := wq_C_kase n hn σ x1 hI.1.1
  have hj := wj_kase n hn x1 hI.1.1.1 hI.1.2 q hq r hr
  have hk := wa3_kase n hn x1 hI.1.1.1 hI.1.1.2 hI.1.2 hI.2 q hq r hr
  exact ⟨q, hq, hx, r, hr, ⟨⟨hv, hj⟩, hk.2⟩⟩
set_option maxHeartbeats 4000000 in
theorem wq_P_tongue (n : Nat) (hn : 4294967297 < n) : wt_P_tongue n wt_Inv4 := by
  intro σ x1 hI
  obtain ⟨q, hq, hx, r, hr, hv⟩ := wq_C_tongue n hn σ x1 hI.1.1
  have hj := wj_tongue n hn x1 hI.1.1.1 hI.1.2 q hq r hr
  have hk := wa3_tongue n hn x1 hI.1.1.1 hI.1.1.2 hI.1.2 hI.2 q hq r hr
  exact ⟨q, hq, hx, r, hr, ⟨⟨hv, hj⟩, hk.2⟩⟩
set_option maxHeartbeats 4000000 in
theorem wq_P_text (n : Nat) (hn : 4294967297 < n) : wt_P_text n wt_Inv4 := by
  intro σ x1 hI
  obtain ⟨q, hq, hx, r, hr, hv⟩ := wq_C_text n hn σ x1 hI.1.1
  have hj := wj_text n hn x1 hI.1.1.1 hI.1.2 q hq r hr
  have hk := wa3_text n hn x1 hI.1.1.1 hI.1.1.2 hI.1.2 hI.2 q hq r hr
  exact ⟨q, hq, hx, r, hr, ⟨⟨hv, hj⟩, hk.2⟩⟩
set_option maxHeartbeats 4000000 in
theorem wq_P_fault (n : Nat) (hn : 4294967297 < n) : wt_P_fault n wt_Inv4 := by
  intro σ hI
  obtain ⟨q, hq, r, hr, hv⟩ := wq_C_fault n hn σ hI.1.1
  have hj := wj_fault n hn hI.1.1.1 hI.1.2 q hq r hr
  have hk := wa3_fault n hn hI.1.1.1 hI.1.1.2 hI.1.2 hI.2 q hq r hr
  exact ⟨q, hq, r, hr, ⟨⟨hv, hj⟩, hk.2⟩⟩
set_option maxHeartbeats 4000000 in
theorem wq_P_told (n : Nat) (hn : 4294967297 < n) : wt_P_told n wt_Inv4 := by
  intro σ x1 hI
  obtain ⟨q, hq, hx, r, hr, hv⟩ := wq_C_told n hn σ x1 hI.1.1
  have hj := wj_told n hn x1 hI.1.1.1 hI.1.2 q hq r hr
  have hk := wk3_told n hn x1 hI.1.1.1 hI.2 q hq r hr
  exact ⟨q, hq, hx, r, hr, ⟨⟨hv, hj⟩, hk⟩⟩
set_option maxHeartbeats 4000000 in
theorem wq_P_letter (n : Nat) (hn : 4294967297 < n) : wt_P_letter n wt_Inv4 := by
  intro σ x1 x2 hI
  obtain ⟨q, hq, hx, r, hr, hv⟩ := wq_C_letter n hn σ x1 x2 hI.1.1
  have hj := wj_letter n hn x1 x2 hI.1.1.1 hI.1.2 q hq r hr
  have hk := wk3_letter n hn x1 x2 hI.1.1.1 hI.2 q hq r hr
  exact ⟨q, hq, hx, r, hr, ⟨⟨hv, hj⟩, hk⟩⟩
set_option maxHeartbeats 4000000 in
theorem wq_P_piece (n : Nat) (hn : 4294967297 < n) : wt_P_piece n wt_Inv4 := by
  intro σ x1 x2 x3 hI
  obtain ⟨q, hq, hx, r, hr, hv⟩ := wq_C_piece n hn σ x1 x2 x3 hI.1.1
  have hj := wj_piece n hn x1 x2 x3 hI.1.1.1 hI.1.2 q hq r hr
  have hk := wk3_piece n hn x1 x2 x3 hI.1.1.1 hI.2 q hq r hr
  exact ⟨q, hq, hx, r, hr, ⟨⟨hv, hj⟩, hk⟩⟩
set_option maxHeartbeats 4000000 in
theorem wq_P_word (n : Nat) (hn : 4294967297 < n) : wt_P_word n wt_Inv4 := by
  intro σ x1 x2 hI
  obtain ⟨q, hq, hx, r, hr, hv⟩ := wq_C_word n hn σ x1 x2 hI.1.1
  have hj := wj_word n hn x1 x2 hI.1.1.1 hI.1.2 q hq r hr
  have hk := wk3_word n hn x1 x2 hI.1.1.1 hI.2 q hq r hr
  exact ⟨q, hq, hx, r, hr, ⟨⟨hv, hj⟩, hk⟩⟩
set_option maxHeartbeats 4000000 in
theorem wq_P_at (n : Nat) (hn : 4294967297 < n) : wt_P_at n wt_Inv4 := by
  intro σ x1 x2 hI
  obtain ⟨q, hq, hx, r, hr, hv⟩ := wq_C_at n hn σ x1 x2 hI.1.1
  have hj := wj_at n hn x1 x2 hI.1.1.1 hI.1.2 q hq r hr
  have hk := wa3_at n hn x1 x2 hI.1.1.1 hI.1.1.2 hI.1.2 hI.2 q hq r hr
  exact ⟨q, hq, hx, r, hr, ⟨⟨hv, hj⟩, hk.2⟩⟩
set_option maxHeartbeats 4000000 in
theorem wq_P_needs (n : Nat) (hn : 4294967297 < n) : wt_P_needs n wt_Inv4 := by
  intro σ x1 x2 hI
  obtain ⟨q, hq, hx, r, hr, hv⟩ := wq_C_needs n hn σ x1 x2 hI.1.1
  have hj := wj_needs n hn x1 x2 hI.1.1.1 hI.1.2 q hq r hr
  have hk := wk3_needs n hn x1 x2 hI.1.1.1 hI.2 q hq r hr
  exact ⟨q, hq, hx, r, hr, ⟨⟨hv, hj⟩, hk⟩⟩
set_option maxHeartbeats 4000000 in
theorem wq_P_habit (n : Nat) (hn : 4294967297 < n) : wt_P_habit n wt_Inv4 := by
  intro σ x1 hI
  obtain ⟨q, hq, hx, r, hr, hv⟩ := wq_C_habit n hn σ x1 hI.1.1
  have hj := wj_habit n hn x1 hI.1.1.1 hI.1.2 q hq r hr
  have hk := wa3_habit n hn x1 hI.1.1.1 hI.1.1.2 hI.1.2 hI.2 q hq r hr
  exact ⟨q, hq, hx, r, hr, ⟨⟨hv, hj⟩, hk.2⟩⟩
set_option maxHeartbeats 4000000 in
theorem wq_P_can (n : Nat) (hn : 4294967297 < n) : wt_P_can n wt_Inv4 := by
  intro σ x1 hI
  obtain ⟨q, hq, hx, r, hr, hv⟩ := wq_C_can n hn σ x1 hI.1.1
  have hj := wj_can n hn x1 hI.1.1.1 hI.1.2 q hq r hr
  have hk := wk3_can n hn x1 hI.1.1.1 hI.2 q hq r hr
  exact ⟨q, hq, hx, r, hr, ⟨⟨hv, hj⟩, hk⟩⟩
set_option maxHeartbeats 4000000 in
theorem wq_P_lacks (n : Nat) (hn : 4294967297 < n) : wt_P_lacks n wt_Inv4 := by
  intro σ x1 x2 hI
  obtain ⟨q, hq, hx, r, hr, hv⟩ := wq_C_lacks n hn σ x1 x2 hI.1.1
  have hj := wj_lacks n hn x1 x2 hI.1.1.1 hI.1.2 q hq r hr
  have hk := wk3_lacks n hn x1 x2 hI.1.1.1 hI.2 q hq r hr
  exact ⟨q, hq, hx, r, hr, ⟨⟨hv, hj⟩, hk⟩⟩
set_option maxHeartbeats 4000000 in
theorem wq_P_set (n : Nat) (hn : 4294967297 < n) : wt_P_set n wt_Inv4 := by
  intro σ x1 x2 hI
  obtain ⟨q, hq, hx, r, hr, hv⟩ := wq_C_set n hn σ x1 x2 hI.1.1
  have hj := wj_set n hn x1 x2 hI.1.1.1 hI.1.2 q hq r hr
  have hk := wa3_set n hn x1 x2 hI.1.1.1 hI.1.1.2 hI.1.2 hI.2 q hq r hr
  exact ⟨q, hq, hx, r, hr, ⟨⟨hv, hj⟩, hk.2⟩⟩
set_option maxHeartbeats 4000000 in
theorem wq_P_print (n : Nat) (hn : 4294967297 < n) : wt_P_print n wt_Inv4 := by
  intro σ x1 x2 hI
  obtain ⟨q, hq, hx, r, hr, hv⟩ := wq_C_print n hn σ x1 x2 hI.1.1
  have hj := wj_print n hn x1 x2 hI.1.1.1 hI.1.2 q hq r hr
  have hk := wa3_print n hn x1 x2 hI.1.1.1 hI.1.1.2 hI.1.2 hI.2 q hq r hr
  exact ⟨q, hq, hx, r, hr, ⟨⟨hv, hj⟩, hk.2⟩⟩
set_option maxHeartbeats 4000000 in
theorem wq_P_apart (n : Nat) (hn : 4294967297 < n) : wt_P_apart n wt_Inv4 := by
  intro σ x1 hI
  obtain ⟨q, hq, hx, r, hr, hv⟩ := wq_C_apart n hn σ x1 hI.1.1
  have hj := wj_apart n hn x1 hI.1.1.1 hI.1.2 q hq r hr
  have hk := wa3_apart n hn x1 hI.1.1.1 hI.1.1.2 hI.1.2 hI.2 q hq r hr
  exact ⟨q, hq, hx, r, hr, ⟨⟨hv, hj⟩, hk.2⟩⟩
set_option maxHeartbeats 4000000 in
theorem wq_P_page (n : Nat) (hn : 4294967297 < n) : wt_P_page n wt_Inv4 := by
  intro σ x1 x2 hI
  obtain ⟨q, hq, hx, r, hr, hv⟩ := wq_C_page n hn σ x1 x2 hI.1.1
  have hj := wj_page n hn x1 x2 hI.1.1.1 hI.1.2 q hq r hr
  have hk := wk3_page n hn x1 x2 hI.1.1.1 hI.2 q hq r hr
  exact ⟨q, hq, hx, r, hr, ⟨⟨hv, hj⟩, hk⟩⟩
set_option maxHeartbeats 4000000 in
theorem wq_P_read (n : Nat) (hn : 4294967297 < n) : wt_P_read n wt_Inv4 := by
  intro σ x1 x2 hI
  obtain ⟨q, hq, hx, r, hr, hv⟩ := wq_C_read n hn σ x1 x2 hI.1.1
  have hj := wj_read n hn x1 x2 hI.1.1.1 hI.1.2 q hq r hr
  have hk := wk3_read n hn x1 x2 hI.1.1.1 hI.2 q hq r hr
  exact ⟨q, hq, hx, r, hr, ⟨⟨hv, hj⟩, hk⟩⟩
set_option maxHeartbeats 4000000 in
theorem wq_P_least (n : Nat) (hn : 4294967297 < n) : wt_P_least n wt_Inv4 := by
  intro σ x1 x2 x3 hI
  obtain ⟨q, hq, hx, r, hr, hv⟩ := wq_C_least n hn σ x1 x2 x3 hI.1.1
  have hj := wj_least n hn x1 x2 x3 hI.1.1.1 hI.1.2 q hq r hr
  have hk := wk3_least n hn x1 x2 x3 hI.1.1.1 hI.2 q hq r hr
  exact ⟨q, hq, hx, r, hr, ⟨⟨hv, hj⟩, hk⟩⟩
set_option maxHeartbeats 4000000 in
theorem wq_P_fitting (n : Nat) (hn : 4294967297 < n) : wt_P_fitting n wt_Inv4 := by
  intro σ x1 x2 x3 x4 hI
  obtain ⟨q, hq, hx, r, hr, hv⟩ := wq_C_fitting n hn σ x1 x2 x3 x4 hI.1.1
  have hj := wj_fitting n hn x1 x2 x3 x4 hI.1.1.1 hI.1.2 q hq r hr
  have hk := wk3_fitting n hn x1 x2 x3 x4 hI.1.1.1 hI.2 q hq r hr
  exact ⟨q, hq, hx, r, hr, ⟨⟨hv, hj⟩, hk⟩⟩
set_option maxHeartbeats 4000000 in
theorem wq_P_wordings (n : Nat) (hn : 4294967297 < n) : wt_P_wordings n wt_Inv4 := by
  intro σ x1 hI
  obtain ⟨q, hq, hx, r, hr, hv⟩ := wq_C_wordings n hn σ x1 hI.1.1
  have hj := wj_wordings n hn x1 hI.1.1.1 hI.1.2 q hq r hr
  have hk := wk3_wordings n hn x1 hI.1.1.1 hI.2 q hq r hr
  exact ⟨q, hq, hx, r, hr, ⟨⟨hv, hj⟩, hk⟩⟩
set_option maxHeartbeats 4000000 in
theorem wq_P_want (n : Nat) (hn : 4294967297 < n) : wt_P_want n wt_Inv4 := by
  intro σ x1 x2 x3 x4 hI
  obtain ⟨q, hq, hx, r, hr, hv⟩ := wq_C_want n hn σ x1 x2 x3 x4 hI.1.1
  have hj := wj_want n hn x1 x2 x3 x4 hI.1.1.1 hI.1.2 q hq r hr
  have hk := wa3_want n hn x1 x2 x3 x4 hI.1.1.1 hI.1.1.2 hI.1.2 hI.2 q hq r hr
  exact ⟨q, hq, hx, r, hr, ⟨⟨hv, hj⟩, hk.2⟩⟩
set_option maxHeartbeats 4000000 in
theorem wq_P_forget (n : Nat) (hn : 4294967297 < n) : wt_P_forget n wt_Inv4 := by
  intro σ hI
  obtain ⟨q, hq, r, hr, hv⟩ := wq_C_forget n hn σ hI.1.1
  have hj := wj_forget n hn hI.1.1.1 hI.1.2 q hq r hr
  have hk := wa3_forget n hn hI.1.1.1 hI.1.1.2 hI.1.2 hI.2 q hq r hr
  exact ⟨q, hq, r, hr, ⟨⟨hv, hj⟩, hk.2⟩⟩
set_option maxHeartbeats 4000000 in
theorem wq_P_most (n : Nat) (hn : 4294967297 < n) : wt_P_most n wt_Inv4 := by
  intro σ x1 hI
  obtain ⟨q, hq, hx, r, hr, hv⟩ := wq_C_most n hn σ x1 hI.1.1
  have hj := wj_most n hn x1 hI.1.1.1 hI.1.2 q hq r hr
  have hk := wk3_most n hn x1 hI.1.1.1 hI.2 q hq r hr
  exact ⟨q, hq, hx, r, hr, ⟨⟨hv, hj⟩, hk⟩⟩
set_option maxHeartbeats 4000000 in
theorem wq_P_greedy (n : Nat) (hn : 4294967297 < n) : wt_P_greedy n wt_Inv4 := by
  intro σ x1 hI
  obtain ⟨q, hq, hx, r, hr, hv⟩ := wq_C_greedy n hn σ x1 hI.1.1
  have hj := wj_greedy n hn x1 hI.1.1.1 hI.1.2 q hq r hr
  have hk := wk3_greedy n hn x1 hI.1.1.1 hI.2 q hq r hr
  exact ⟨q, hq, hx, r, hr, ⟨⟨hv, hj⟩, hk⟩⟩
set_option maxHeartbeats 4000000 in
theorem wq_P_bound (n : Nat) (hn : 4294967297 < n) : wt_P_bound n wt_Inv4 := by
  intro σ hI
  obtain ⟨q, hq, r, hr, hv⟩ := wq_C_bound n hn σ hI.1.1
  have hj := wj_bound n hn hI.1.1.1 hI.1.2 q hq r hr
  have hk := wk3_bound n hn hI.1.1.1 hI.2 q hq r hr
  exact ⟨q, hq, r, hr, ⟨⟨hv, hj⟩, hk⟩⟩
set_option maxHeartbeats 4000000 in
theorem wq_P_said (n : Nat) (hn : 4294967297 < n) : wt_P_said n wt_Inv4 := by
  intro σ x1 x2 hI
  obtain ⟨q, hq, hx, r, hr, hv⟩ := wq_C_said n hn σ x1 x2 hI.1.1
  have hj := wj_said n hn x1 x2 hI.1.1.1 hI.1.2 q hq r hr
  have hk := wk3_said n hn x1 x2 hI.1.1.1 hI.2 q hq r hr
  exact ⟨q, hq, hx, r, hr, ⟨⟨hv, hj⟩, hk⟩⟩
set_option maxHeartbeats 4000000 in
theorem wq_P_lost (n : Nat) (hn : 4294967297 < n) : wt_P_lost n wt_Inv4 := by
  intro σ x1 hI
  obtain ⟨q, hq, hx, r, hr, hv⟩ := wq_C_lost n hn σ x1 hI.1.1
  have hj := wj_lost n hn x1 hI.1.1.1 hI.1.2 q hq r hr
  have hk := wk3_lost n hn x1 hI.1.1.1 hI.2 q hq r hr
  exact ⟨q, hq, hx, r, hr, ⟨⟨hv, hj⟩, hk⟩⟩
set_option maxHeartbeats 4000000 in
theorem wq_P_ends (n : Nat) (hn : 4294967297 < n) : wt_P_ends n wt_Inv4 := by
  intro σ x1 hI
  obtain ⟨q, hq, hx, r, hr, hv⟩ := wq_C_ends n hn σ x1 hI.1.1
  have hj := wj_ends n hn x1 hI.1.1.1 hI.1.2 q hq r hr
  have hk := wk3_ends n hn x1 hI.1.1.1 hI.2 q hq r hr
  exact ⟨q, hq, hx, r, hr, ⟨⟨hv, hj⟩, hk⟩⟩
set_option maxHeartbeats 4000000 in
theorem wq_P_exchange (n : Nat) (hn : 4294967297 < n) : wt_P_exchange n wt_Inv4 := by
  intro σ x1 hI
  obtain ⟨q, hq, hx, r, hr, hv⟩ := wq_C_exchange n hn σ x1 hI.1.1
  have hj := wj_exchange n hn x1 hI.1.1.1 hI.1.2 q hq r hr
  have hk := wk3_exchange n hn x1 hI.1.1.1 hI.2 q hq r hr
  exact ⟨q, hq, hx, r, hr, ⟨⟨hv, hj⟩, hk⟩⟩
set_option maxHeartbeats 4000000 in
theorem wq_P_cast (n : Nat) (hn : 4294967297 < n) : wt_P_cast n wt_Inv4 := by
  intro σ x1 x2 hI
  obtain ⟨q, hq, hx, r, hr, hv⟩ := wq_C_cast n hn σ x1 x2 hI.1.1
  have hj := wj_cast n hn x1 x2 hI.1.1.1 hI.1.2 q hq r hr
  have hk := wk3_cast n hn x1 x2 hI.1.1.1 hI.2 q hq r hr
  exact ⟨q, hq, hx, r, hr, ⟨⟨hv, hj⟩, hk⟩⟩
set_option maxHeartbeats 4000000 in
theorem wq_P_together (n : Nat) (hn : 4294967297 < n) : wt_P_together n wt_Inv4 := by
  intro σ x1 hI
  obtain ⟨q, hq, hx, r, hr, hv⟩ := wq_C_together n hn σ x1 hI.1.1
  have hj := wj_together n hn x1 hI.1.1.1 hI.1.2 q hq r hr
  have hk := wk3_together n hn x1 hI.1.1.1 hI.2 q hq r hr
  exact ⟨q, hq, hx, r, hr, ⟨⟨hv, hj⟩, hk⟩⟩
set_option maxHeartbeats 4000000 in
theorem wq_P_image (n : Nat) (hn : 4294967297 < n) : wt_P_image n wt_Inv4 := by
  intro σ hI
  obtain ⟨q, hq, r, hr, hv⟩ := wq_C_image n hn σ hI.1.1
  have hj := wj_image n hn hI.1.1.1 hI.1.2 q hq r hr
  have hk := wa3_image n hn hI.1.1.1 hI.1.1.2 hI.1.2 hI.2 q hq r hr
  exact ⟨q, hq, r, hr, ⟨⟨hv, hj⟩, hk.2⟩⟩
set_option maxHeartbeats 4000000 in
theorem wq_P_restore (n : Nat) (hn : 4294967297 < n) : wt_P_restore n wt_Inv4 := by
  intro σ hI
  obtain ⟨q, hq, r, hr, hv⟩ := wq_C_restore n hn σ hI.1.1
  have hj := wj_restore n hn hI.1.1.1 hI.1.2 q hq r hr
  have hk := wa3_restore n hn hI.1.1.1 hI.1.1.2 hI.1.2 hI.2 q hq r hr
  exact ⟨q, hq, r, hr, ⟨⟨hv, hj⟩, hk.2⟩⟩
set_option maxHeartbeats 4000000 in
theorem wq_P_count (n : Nat) (hn : 4294967297 < n) : wt_P_count n wt_Inv4 := by
  intro σ x1 hI
  obtain ⟨q, hq, r, hr, hv⟩ := wq_C_count n hn σ x1 hI.1.1
  have hj := wj_count n hn x1 hI.1.1.1 hI.1.2 q hq r hr
  have hk := wa3_count n hn x1 hI.1.1.1 hI.1.1.2 hI.1.2 hI.2 q hq r hr
  exact ⟨q, hq, r, hr, hk.1, ⟨⟨hv, hj⟩, hk.2⟩⟩
