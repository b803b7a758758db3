def wb12m2_prog_2_method_2_code_r2 : List (List Nat) := [42, 180, 0, 27, 184, 0, 36, 43, 180, 0, 30, 42, 180, 0, 30, 184, 0, 36, 42, 43, 180, 0, 40, 181, 0, 40, 177] :: []
def wb12m2_prog_2_method_2_code_r1 : List (List Nat) := [184, 0, 36, 43, 180, 0, 21, 42, 180, 0, 21, 184, 0, 36, 43, 180, 0, 24, 42, 180, 0, 24, 184, 0, 36, 43, 180, 0, 27] :: wb12m2_prog_2_method_2_code_r2
def wb12m2_prog_2_method_2_code_r0 : List (List Nat) := [43, 180, 0, 9, 42, 180, 0, 9, 184, 0, 36, 43, 180, 0, 15, 42, 180, 0, 15, 184, 0, 36, 43, 180, 0, 18, 42, 180, 0, 18] :: wb12m2_prog_2_method_2_code_r1
set_option maxRecDepth 100000 in
theorem wb12m2_prog_2_method_2_code_c0 : wt_cs prog_2_method_2_code 0 wb12m2_prog_2_method_2_code_r0 := wt_cs_of (by decide +kernel)
theorem wb12m2_prog_2_method_2_code_c1 : wt_cs prog_2_method_2_code 30 wb12m2_prog_2_method_2_code_r1 := wt_cs_tl (m := 30) wb12m2_prog_2_method_2_code_c0 rfl rfl
theorem wb12m2_prog_2_method_2_code_c2 : wt_cs prog_2_method_2_code 59 wb12m2_prog_2_method_2_code_r2 := wt_cs_tl (m := 29) wb12m2_prog_2_method_2_code_c1 rfl rfl
theorem wp_ld_become_d0 : decode prog_2_method_2_code 0 = .ok (.aload_n 1, 1) := wt_op43 wb12m2_prog_2_method_2_code_c0 0 rfl rfl
theorem wp_ld_become_d1 : decode prog_2_method_2_code 1 = .ok (.getfield 9, 3) := wt_op180 wb12m2_prog_2_method_2_code_c0 1 rfl rfl rfl
theorem wp_ld_become_d4 : decode prog_2_method_2_code 4 = .ok (.aload_n 0, 1) := wt_op42 wb12m2_prog_2_method_2_code_c0 4 rfl rfl
theorem wp_ld_become_d5 : decode prog_2_method_2_code 5 = .ok (.getfield 9, 3) := wt_op180 wb12m2_prog_2_method_2_code_c0 5 rfl rfl rfl
theorem wp_ld_become_d8 : decode prog_2_method_2_code 8 = .ok (.invokestatic 36, 3) := wt_op184 wb12m2_prog_2_method_2_code_c0 8 rfl rfl rfl
theorem wp_ld_become_d11 : decode prog_2_method_2_code 11 = .ok (.aload_n 1, 1) := wt_op43 wb12m2_prog_2_method_2_code_c0 11 rfl rfl
theorem wp_ld_become_d12 : decode prog_2_method_2_code 12 = .ok (.getfield 15, 3) := wt_op180 wb12m2_prog_2_method_2_code_c0 12 rfl rfl rfl
theorem wp_ld_become_d15 : decode prog_2_method_2_code 15 = .ok (.aload_n 0, 1) := wt_op42 wb12m2_prog_2_method_2_code_c0 15 rfl rfl
theorem wp_ld_become_d16 : decode prog_2_method_2_code 16 = .ok (.getfield 15, 3) := wt_op180 wb12m2_prog_2_method_2_code_c0 16 rfl rfl rfl
theorem wp_ld_become_d19 : decode prog_2_method_2_code 19 = .ok (.invokestatic 36, 3) := wt_op184 wb12m2_prog_2_method_2_code_c0 19 rfl rfl rfl
theorem wp_ld_become_d22 : decode prog_2_method_2_code 22 = .ok (.aload_n 1, 1) := wt_op43 wb12m2_prog_2_method_2_code_c0 22 rfl rfl
theorem wp_ld_become_d23 : decode prog_2_method_2_code 23 = .ok (.getfield 18, 3) := wt_op180 wb12m2_prog_2_method_2_code_c0 23 rfl rfl rfl
theorem wp_ld_become_d26 : decode prog_2_method_2_code 26 = .ok (.aload_n 0, 1) := wt_op42 wb12m2_prog_2_method_2_code_c0 26 rfl rfl
theorem wp_ld_become_d27 : decode prog_2_method_2_code 27 = .ok (.getfield 18, 3) := wt_op180 wb12m2_prog_2_method_2_code_c0 27 rfl rfl rfl
theorem wp_ld_become_d30 : decode prog_2_method_2_code 30 = .ok (.invokestatic 36, 3) := wt_op184 wb12m2_prog_2_method_2_code_c1 0 rfl rfl rfl
theorem wp_ld_become_d33 : decode prog_2_method_2_code 33 = .ok (.aload_n 1, 1) := wt_op43 wb12m2_prog_2_method_2_code_c1 3 rfl rfl
theorem wp_ld_become_d34 : decode prog_2_method_2_code 34 = .ok (.getfield 21, 3) := wt_op180 wb12m2_prog_2_method_2_code_c1 4 rfl rfl rfl
theorem wp_ld_become_d37 : decode prog_2_method_2_code 37 = .ok (.aload_n 0, 1) := wt_op42 wb12m2_prog_2_method_2_code_c1 7 rfl rfl
theorem wp_ld_become_d38 : decode prog_2_method_2_code 38 = .ok (.getfield 21, 3) := wt_op180 wb12m2_prog_2_method_2_code_c1 8 rfl rfl rfl
theorem wp_ld_become_d41 : decode prog_2_method_2_code 41 = .ok (.invokestatic 36, 3) := wt_op184 wb12m2_prog_2_method_2_code_c1 11 rfl rfl rfl
theorem wp_ld_become_d44 : decode prog_2_method_2_code 44 = .ok (.aload_n 1, 1) := wt_op43 wb12m2_prog_2_method_2_code_c1 14 rfl rfl
theorem wp_ld_become_d45 : decode prog_2_method_2_code 45 = .ok (.getfield 24, 3) := wt_op180 wb12m2_prog_2_method_2_code_c1 15 rfl rfl rfl
theorem wp_ld_become_d48 : decode prog_2_method_2_code 48 = .ok (.aload_n 0, 1) := wt_op42 wb12m2_prog_2_method_2_code_c1 18 rfl rfl
theorem wp_ld_become_d49 : decode prog_2_method_2_code 49 = .ok (.getfield 24, 3) := wt_op180 wb12m2_prog_2_method_2_code_c1 19 rfl rfl rfl
theorem wp_ld_become_d52 : decode prog_2_method_2_code 52 = .ok (.invokestatic 36, 3) := wt_op184 wb12m2_prog_2_method_2_code_c1 22 rfl rfl rfl
theorem wp_ld_become_d55 : decode prog_2_method_2_code 55 = .ok (.aload_n 1, 1) := wt_op43 wb12m2_prog_2_method_2_code_c1 25 rfl rfl
theorem wp_ld_become_d56 : decode prog_2_method_2_code 56 = .ok (.getfield 27, 3) := wt_op180 wb12m2_prog_2_method_2_code_c1 26 rfl rfl rfl
theorem wp_ld_become_d59 : decode prog_2_method_2_code 59 = .ok (.aload_n 0, 1) := wt_op42 wb12m2_prog_2_method_2_code_c2 0 rfl rfl
theorem wp_ld_become_d60 : decode prog_2_method_2_code 60 = .ok (.getfield 27, 3) := wt_op180 wb12m2_prog_2_method_2_code_c2 1 rfl rfl rfl
theorem wp_ld_become_d63 : decode prog_2_method_2_code 63 = .ok (.invokestatic 36, 3) := wt_op184 wb12m2_prog_2_method_2_code_c2 4 rfl rfl rfl
theorem wp_ld_become_d66 : decode prog_2_method_2_code 66 = .ok (.aload_n 1, 1) := wt_op43 wb12m2_prog_2_method_2_code_c2 7 rfl rfl
theorem wp_ld_become_d67 : decode prog_2_method_2_code 67 = .ok (.getfield 30, 3) := wt_op180 wb12m2_prog_2_method_2_code_c2 8 rfl rfl rfl
theorem wp_ld_become_d70 : decode prog_2_method_2_code 70 = .ok (.aload_n 0, 1) := wt_op42 wb12m2_prog_2_method_2_code_c2 11 rfl rfl
theorem wp_ld_become_d71 : decode prog_2_method_2_code 71 = .ok (.getfield 30, 3) := wt_op180 wb12m2_prog_2_method_2_code_c2 12 rfl rfl rfl
theorem wp_ld_become_d74 : decode prog_2_method_2_code 74 = .ok (.invokestatic 36, 3) := wt_op184 wb12m2_prog_2_method_2_code_c2 15 rfl rfl rfl
theorem wp_ld_become_d77 : decode prog_2_method_2_code 77 = .ok (.aload_n 0, 1) := wt_op42 wb12m2_prog_2_method_2_code_c2 18 rfl rfl
theorem wp_ld_become_d78 : decode prog_2_method_2_code 78 = .ok (.aload_n 1, 1) := wt_op43 wb12m2_prog_2_method_2_code_c2 19 rfl rfl
theorem wp_ld_become_d79 : decode prog_2_method_2_code 79 = .ok (.getfield 40, 3) := wt_op180 wb12m2_prog_2_method_2_code_c2 20 rfl rfl rfl
theorem wp_ld_become_d82 : decode prog_2_method_2_code 82 = .ok (.putfield 40, 3) := wt_op181 wb12m2_prog_2_method_2_code_c2 23 rfl rfl rfl
theorem wp_ld_become_d85 : decode prog_2_method_2_code 85 = .ok (.return_, 1) := wt_op177 wb12m2_prog_2_method_2_code_c2 26 rfl rfl
noncomputable def wp_ld_become (n : Nat) (t0 : Nat) (t1 : Nat) (σ : wt_St) : Option (wt_St) :=
  (wp_ap_copyRow n (t1 + 1) (t0 + 1) σ).bind fun q1 =>
  (wp_ap_copyRow n (t1 + 2) (t0 + 2) q1).bind fun q2 =>
  (wp_ap_copyRow n (t1 + 3) (t0 + 3) q2).bind fun q3 =>
  (wp_ap_copyRow n (t1 + 4) (t0 + 4) q3).bind fun q4 =>
  (wp_ap_copyRow n (t1 + 5) (t0 + 5) q4).bind fun q5 =>
  (wp_ap_copyRow n (t1 + 6) (t0 + 6) q5).bind fun q6 =>
  (wp_ap_copyRow n (t1 + 7) (t0 + 7) q6).bind fun q7 =>
  some (wt_sf q7 t0 7 (wt_gf q7 t1 7))
set_option maxRecDepth 100000 in
set_option maxHeartbeats 4000000 in
theorem wp_ld_become_ok {l : Launch} {w : wt_E} {n : Nat} {t0 : Nat} {t1 : Nat} (hI_t0 : wt_isLead t0) (hT_t0 : ∀ j, j < 8 → wt_dom w (t0 + j)) (hI_t1 : wt_isLead t1) (hT_t1 : ∀ j, j < 8 → wt_dom w (t1 + j)) {σ : wt_St} {q : wt_St} (h : wp_ld_become n t0 t1 σ = some q) : wt_Ctr l w wt_y_ld_become prog_2_method_2_code 2 none 1 [.ref (wt_ad w t0), .ref (wt_ad w t1)] σ none q := by
  refine wt_ctr wt_pl_ld_become rfl (Nat.le_of_ble_eq_true rfl) [some (.ref (wt_ad w t0)), some (.ref (wt_ad w t1))] rfl ?_
  intro X hXl hXw hE hR
  subst hXl
  subst hXw
  have hE : wt_Ok X prog_2_method_2_code 2 "WornType$Lead" 1 0 := hE
  unfold wp_ld_become at h
  refine wt_aload_n hE wp_ld_become_d0 rfl ?_
  refine wt_getr hE (r := (t1 + 1)) wt_lf_ld_9 (hT_t1 0 (Nat.le_of_ble_eq_true rfl)) (hI_t1.1) rfl wp_ld_become_d1 ?_
  refine wt_aload_n hE wp_ld_become_d4 rfl ?_
  refine wt_getr hE (r := (t0 + 1)) wt_lf_ld_9 (hT_t0 0 (Nat.le_of_ble_eq_true rfl)) (hI_t0.1) rfl wp_ld_become_d5 ?_
  obtain ⟨q1, hq1, h⟩ := wt_bi h
  refine wt_callSv hE [.ref (wt_ad (wt_xw X) ((t1 + 1))), .ref (wt_ad (wt_xw X) ((t0 + 1)))] wt_lm_ld_36 wt_ya_ap_copyRow (wp_ap_copyRow_ok (wt_lnE (wt_isLead_L1 hI_t1)) (hT_t1 1 (Nat.le_of_ble_eq_true rfl)) (wt_lnE (wt_isLead_L1 hI_t0)) (hT_t0 1 (Nat.le_of_ble_eq_true rfl)) hq1) (by omega) rfl rfl (Nat.le_of_ble_eq_true rfl) (Nat.zero_le _) wp_ld_become_d8 ?_
  refine wt_aload_n hE wp_ld_become_d11 rfl ?_
  refine wt_getr hE (r := (t1 + 2)) wt_lf_ld_15 (hT_t1 0 (Nat.le_of_ble_eq_true rfl)) (hI_t1.1) rfl wp_ld_become_d12 ?_
  refine wt_aload_n hE wp_ld_become_d15 rfl ?_
  refine wt_getr hE (r := (t0 + 2)) wt_lf_ld_15 (hT_t0 0 (Nat.le_of_ble_eq_true rfl)) (hI_t0.1) rfl wp_ld_become_d16 ?_
  obtain ⟨q2, hq2, h⟩ := wt_bi h
  refine wt_callSv hE [.ref (wt_ad (wt_xw X) ((t1 + 2))), .ref (wt_ad (wt_xw X) ((t0 + 2)))] wt_lm_ld_36 wt_ya_ap_copyRow (wp_ap_copyRow_ok (wt_lnE (wt_isLead_L2 hI_t1)) (hT_t1 2 (Nat.le_of_ble_eq_true rfl)) (wt_lnE (wt_isLead_L2 hI_t0)) (hT_t0 2 (Nat.le_of_ble_eq_true rfl)) hq2) (by omega) rfl rfl (Nat.le_of_ble_eq_true rfl) (Nat.zero_le _) wp_ld_become_d19 ?_
  refine wt_aload_n hE wp_ld_become_d22 rfl ?_
  refine wt_getr hE (r := (t1 + 3)) wt_lf_ld_18 (hT_t1 0 (Nat.le_of_ble_eq_true rfl)) (hI_t1.1) rfl wp_ld_become_d23 ?_
  refine wt_aload_n hE wp_ld_become_d26 rfl ?_
  refine wt_getr hE (r := (t0 + 3)) wt_lf_ld_18 (hT_t0 0 (Nat.le_of_ble_eq_true rfl)) (hI_t0.1) rfl wp_ld_become_d27 ?_
  obtain ⟨q3, hq3, h⟩ := wt_bi h
  refine wt_callSv hE [.ref (wt_ad (wt_xw X) ((t1 + 3))), .ref (wt_ad (wt_xw X) ((t0 + 3)))] wt_lm_ld_36 wt_ya_ap_copyRow (wp_ap_copyRow_ok (wt_lnE (wt_isLead_L3 hI_t1)) (hT_t1 3 (Nat.le_of_ble_eq_true rfl)) (wt_lnE (wt_isLead_L3 hI_t0)) (hT_t0 3 (Nat.le_of_ble_eq_true rfl)) hq3) (by omega) rfl rfl (Nat.le_of_ble_eq_true rfl) (Nat.zero_le _) wp_ld_become_d30 ?_
  refine wt_aload_n hE wp_ld_become_d33 rfl ?_
  refine wt_getr hE (r := (t1 + 4)) wt_lf_ld_21 (hT_t1 0 (Nat.le_of_ble_eq_true rfl)) (hI_t1.1) rfl wp_ld_become_d34 ?_
  refine wt_aload_n hE wp_ld_become_d37 rfl ?_
  refine wt_getr hE (r := (t0 + 4)) wt_lf_ld_21 (hT_t0 0 (Nat.le_of_ble_eq_true rfl)) (hI_t0.1) rfl wp_ld_become_d38 ?_
  obtain ⟨q4, hq4, h⟩ := wt_bi h
  refine wt_callSv hE [.ref (wt_ad (wt_xw X) ((t1 + 4))), .ref (wt_ad (wt_xw X) ((t0 + 4)))] wt_lm_ld_36 wt_ya_ap_copyRow (wp_ap_copyRow_ok (wt_lnE (wt_isLead_L4 hI_t1)) (hT_t1 4 (Nat.le_of_ble_eq_true rfl)) (wt_lnE (wt_isLead_L4 hI_t0)) (hT_t0 4 (Nat.le_of_ble_eq_true rfl)) hq4) (by omega) rfl rfl (Nat.le_of_ble_eq_true rfl) (Nat.zero_le _) wp_ld_become_d41 ?_
  refine wt_aload_n hE wp_ld_become_d44 rfl ?_
  refine wt_getr hE (r := (t1 + 5)) wt_lf_ld_24 (hT_t1 0 (Nat.le_of_ble_eq_true rfl)) (hI_t1.1) rfl wp_ld_become_d45 ?_
  refine wt_aload_n hE wp_ld_become_d48 rfl ?_
  refine wt_getr hE (r := (t0 + 5)) wt_lf_ld_24 (hT_t0 0 (Nat.le_of_ble_eq_true rfl)) (hI_t0.1) rfl wp_ld_become_d49 ?_
  obtain ⟨q5, hq5, h⟩ := wt_bi h
  refine wt_callSv hE [.ref (wt_ad (wt_xw X) ((t1 + 5))), .ref (wt_ad (wt_xw X) ((t0 + 5)))] wt_lm_ld_36 wt_ya_ap_copyRow (wp_ap_copyRow_ok (wt_lnE (wt_isLead_L5 hI_t1)) (hT_t1 5 (Nat.le_of_ble_eq_true rfl)) (wt_lnE (wt_isLead_L5 hI_t0)) (hT_t0 5 (Nat.le_of_ble_eq_true rfl)) hq5) (by omega) rfl rfl (Nat.le_of_ble_eq_true rfl) (Nat.zero_le _) wp_ld_become_d52 ?_
  refine wt_aload_n hE wp_ld_become_d55 rfl ?_
  refine wt_getr hE (r := (t1 + 6)) wt_lf_ld_27 (hT_t1 0 (Nat.le_of_ble_eq_true rfl)) (hI_t1.1) rfl wp_ld_become_d56 ?_
  refine wt_aload_n hE wp_ld_become_d59 rfl ?_
  refine wt_getr hE (r := (t0 + 6)) wt_lf_ld_27 (hT_t0 0 (Nat.le_of_ble_eq_true rfl)) (hI_t0.1) rfl wp_ld_become_d60 ?_
  obtain ⟨q6, hq6, h⟩ := wt_bi h
  refine wt_callSv hE [.ref (wt_ad (wt_xw X) ((t1 + 6))), .ref (wt_ad (wt_xw X) ((t0 + 6)))] wt_lm_ld_36 wt_ya_ap_copyRow (wp_ap_copyRow_ok (wt_lnE (wt_isLead_L6 hI_t1)) (hT_t1 6 (Nat.le_of_ble_eq_true rfl)) (wt_lnE (wt_isLead_L6 hI_t0)) (hT_t0 6 (Nat.le_of_ble_eq_true rfl)) hq6) (by omega) rfl rfl (Nat.le_of_ble_eq_true rfl) (Nat.zero_le _) wp_ld_become_d63 ?_
  refine wt_aload_n hE wp_ld_become_d66 rfl ?_
  refine wt_getr hE (r := (t1 + 7)) wt_lf_ld_30 (hT_t1 0 (Nat.le_of_ble_eq_true rfl)) (hI_t1.1) rfl wp_ld_become_d67 ?_
  refine wt_aload_n hE wp_ld_become_d70 rfl ?_
  refine wt_getr hE (r := (t0 + 7)) wt_lf_ld_30 (hT_t0 0 (Nat.le_of_ble_eq_true rfl)) (hI_t0.1) rfl wp_ld_become_d71 ?_
  obtain ⟨q7, hq7, h⟩ := wt_bi h
  refine wt_callSv hE [.ref (wt_ad (wt_xw X) ((t1 + 7))), .ref (wt_ad (wt_xw X) ((t0 + 7)))] wt_lm_ld_36 wt_ya_ap_copyRow (wp_ap_copyRow_ok (wt_lnE (wt_isLead_L7 hI_t1)) (hT_t1 7 (Nat.le_of_ble_eq_true rfl)) (wt_lnE (wt_isLead_L7 hI_t0)) (hT_t0 7 (Nat.le_of_ble_eq_true rfl)) hq7) (by omega) rfl rfl (Nat.le_of_ble_eq_true rfl) (Nat.zero_le _) wp_ld_become_d74 ?_
  refine wt_aload_n hE wp_ld_become_d77 rfl ?_
  refine wt_aload_n hE wp_ld_become_d78 rfl ?_
  refine wt_geti hE wt_lf_ld_40 (hT_t1 0 (Nat.le_of_ble_eq_true rfl)) (hI_t1.1) rfl wp_ld_become_d79 ?_
  refine wt_puti hE wt_lf_ld_40 (hT_t0 0 (Nat.le_of_ble_eq_true rfl)) (hI_t0.1) rfl (fun q hq => by cases hq; rfl) wp_ld_become_d82 ?_
  cases h
  exact wt_vret hE hR wp_ld_become_d85
def wb12m2_prog_2_method_6_code_r2 : List (List Nat) := [42, 3, 181, 0, 40, 177] :: []
def wb12m2_prog_2_method_6_code_r1 : List (List Nat) := [3, 184, 0, 68, 42, 180, 0, 24, 4, 184, 0, 68, 42, 180, 0, 27, 2, 184, 0, 68, 42, 180, 0, 30, 3, 184, 0, 68] :: wb12m2_prog_2_method_6_code_r2
def wb12m2_prog_2_method_6_code_r0 : List (List Nat) := [42, 180, 0, 9, 3, 184, 0, 68, 42, 180, 0, 15, 3, 184, 0, 68, 42, 180, 0, 18, 3, 184, 0, 68, 42, 180, 0, 21] :: wb12m2_prog_2_method_6_code_r1
set_option maxRecDepth 100000 in
theorem wb12m2_prog_2_method_6_code_c0 : wt_cs prog_2_method_6_code 0 wb12m2_prog_2_method_6_code_r0 := wt_cs_of (by decide +kernel)
theorem wb12m2_prog_2_method_6_code_c1 : wt_cs prog_2_method_6_code 28 wb12m2_prog_2_method_6_code_r1 := wt_cs_tl (m := 28) wb12m2_prog_2_method_6_code_c0 rfl rfl
theorem wb12m2_prog_2_method_6_code_c2 : wt_cs prog_2_method_6_code 56 wb12m2_prog_2_method_6_code_r2 := wt_cs_tl (m := 28) wb12m2_prog_2_method_6_code_c1 rfl rfl
theorem wp_ld_clear_d0 : decode prog_2_method_6_code 0 = .ok (.aload_n 0, 1) := wt_op42 wb12m2_prog_2_method_6_code_c0 0 rfl rfl
theorem wp_ld_clear_d1 : decode prog_2_method_6_code 1 = .ok (.getfield 9, 3) := wt_op180 wb12m2_prog_2_method_6_code_c0 1 rfl rfl rfl
theorem wp_ld_clear_d4 : decode prog_2_method_6_code 4 = .ok (.iconst 0, 1) := wt_op3 wb12m2_prog_2_method_6_code_c0 4 rfl rfl
theorem wp_ld_clear_d5 : decode prog_2_method_6_code 5 = .ok (.invokestatic 68, 3) := wt_op184 wb12m2_prog_2_method_6_code_c0 5 rfl rfl rfl
theorem wp_ld_clear_d8 : decode prog_2_method_6_code 8 = .ok (.aload_n 0, 1) := wt_op42 wb12m2_prog_2_method_6_code_c0 8 rfl rfl
theorem wp_ld_clear_d9 : decode prog_2_method_6_code 9 = .ok (.getfield 15, 3) := wt_op180 wb12m2_prog_2_method_6_code_c0 9 rfl rfl rfl
theorem wp_ld_clear_d12 : decode prog_2_method_6_code 12 = .ok (.iconst 0, 1) := wt_op3 wb12m2_prog_2_method_6_code_c0 12 rfl rfl
theorem wp_ld_clear_d13 : decode prog_2_method_6_code 13 = .ok (.invokestatic 68, 3) := wt_op184 wb12m2_prog_2_method_6_code_c0 13 rfl rfl rfl
theorem wp_ld_clear_d16 : decode prog_2_method_6_code 16 = .ok (.aload_n 0, 1) := wt_op42 wb12m2_prog_2_method_6_code_c0 16 rfl rfl
theorem wp_ld_clear_d17 : decode prog_2_method_6_code 17 = .ok (.getfield 18, 3) := wt_op180 wb12m2_prog_2_method_6_code_c0 17 rfl rfl rfl
theorem wp_ld_clear_d20 : decode prog_2_method_6_code 20 = .ok (.iconst 0, 1) := wt_op3 wb12m2_prog_2_method_6_code_c0 20 rfl rfl
theorem wp_ld_clear_d21 : decode prog_2_method_6_code 21 = .ok (.invokestatic 68, 3) := wt_op184 wb12m2_prog_2_method_6_code_c0 21 rfl rfl rfl
theorem wp_ld_clear_d24 : decode prog_2_method_6_code 24 = .ok (.aload_n 0, 1) := wt_op42 wb12m2_prog_2_method_6_code_c0 24 rfl rfl
theorem wp_ld_clear_d25 : decode prog_2_method_6_code 25 = .ok (.getfield 21, 3) := wt_op180 wb12m2_prog_2_method_6_code_c0 25 rfl rfl rfl
theorem wp_ld_clear_d28 : decode prog_2_method_6_code 28 = .ok (.iconst 0, 1) := wt_op3 wb12m2_prog_2_method_6_code_c1 0 rfl rfl
theorem wp_ld_clear_d29 : decode prog_2_method_6_code 29 = .ok (.invokestatic 68, 3) := wt_op184 wb12m2_prog_2_method_6_code_c1 1 rfl rfl rfl
theorem wp_ld_clear_d32 : decode prog_2_method_6_code 32 = .ok (.aload_n 0, 1) := wt_op42 wb12m2_prog_2_method_6_code_c1 4 rfl rfl
theorem wp_ld_clear_d33 : decode prog_2_method_6_code 33 = .ok (.getfield 24, 3) := wt_op180 wb12m2_prog_2_method_6_code_c1 5 rfl rfl rfl
theorem wp_ld_clear_d36 : decode prog_2_method_6_code 36 = .ok (.iconst 1, 1) := wt_op4 wb12m2_prog_2_method_6_code_c1 8 rfl rfl
theorem wp_ld_clear_d37 : decode prog_2_method_6_code 37 = .ok (.invokestatic 68, 3) := wt_op184 wb12m2_prog_2_method_6_code_c1 9 rfl rfl rfl
theorem wp_ld_clear_d40 : decode prog_2_method_6_code 40 = .ok (.aload_n 0, 1) := wt_op42 wb12m2_prog_2_method_6_code_c1 12 rfl rfl
theorem wp_ld_clear_d41 : decode prog_2_method_6_code 41 = .ok (.getfield 27, 3) := wt_op180 wb12m2_prog_2_method_6_code_c1 13 rfl rfl rfl
theorem wp_ld_clear_d44 : decode prog_2_method_6_code 44 = .ok (.iconst (-1), 1) := wt_op2 wb12m2_prog_2_method_6_code_c1 16 rfl rfl
theorem wp_ld_clear_d45 : decode prog_2_method_6_code 45 = .ok (.invokestatic 68, 3) := wt_op184 wb12m2_prog_2_method_6_code_c1 17 rfl rfl rfl
theorem wp_ld_clear_d48 : decode prog_2_method_6_code 48 = .ok (.aload_n 0, 1) := wt_op42 wb12m2_prog_2_method_6_code_c1 20 rfl rfl
theorem wp_ld_clear_d49 : decode prog_2_method_6_code 49 = .ok (.getfield 30, 3) := wt_op180 wb12m2_prog_2_method_6_code_c1 21 rfl rfl rfl
theorem wp_ld_clear_d52 : decode prog_2_method_6_code 52 = .ok (.iconst 0, 1) := wt_op3 wb12m2_prog_2_method_6_code_c1 24 rfl rfl
theorem wp_ld_clear_d53 : decode prog_2_method_6_code 53 = .ok (.invokestatic 68, 3) := wt_op184 wb12m2_prog_2_method_6_code_c1 25 rfl rfl rfl
theorem wp_ld_clear_d56 : decode prog_2_method_6_code 56 = .ok (.aload_n 0, 1) := wt_op42 wb12m2_prog_2_method_6_code_c2 0 rfl rfl
theorem wp_ld_clear_d57 : decode prog_2_method_6_code 57 = .ok (.iconst 0, 1) := wt_op3 wb12m2_prog_2_method_6_code_c2 1 rfl rfl
theorem wp_ld_clear_d58 : decode prog_2_method_6_code 58 = .ok (.putfield 40, 3) := wt_op181 wb12m2_prog_2_method_6_code_c2 2 rfl rfl rfl
theorem wp_ld_clear_d61 : decode prog_2_method_6_code 61 = .ok (.return_, 1) := wt_op177 wb12m2_prog_2_method_6_code_c2 5 rfl rfl
noncomputable def wp_ld_clear (n : Nat) (t0 : Nat) (σ : wt_St) : Option (wt_St) :=
  (wp_ap_fillRow n (t0 + 1) (0 : Int32) σ).bind fun q1 =>
  (wp_ap_fillRow n (t0 + 2) (0 : Int32) q1).bind fun q2 =>
  (wp_ap_fillRow n (t0 + 3) (0 : Int32) q2).bind fun q3 =>
  (wp_ap_fillRow n (t0 + 4) (0 : Int32) q3).bind fun q4 =>
  (wp_ap_fillRow n (t0 + 5) (1 : Int32) q4).bind fun q5 =>
  (wp_ap_fillRow n (t0 + 6) (-1 : Int32) q5).bind fun q6 =>
  (wp_ap_fillRow n (t0 + 7) (0 : Int32) q6).bind fun q7 =>
  some (wt_sf q7 t0 7 (0 : Int32))
set_option maxRecDepth 100000 in
set_option maxHeartbeats 4000000 in
theorem wp_ld_clear_ok {l : Launch} {w : wt_E} {n : Nat} {t0 : Nat} (hI_t0 : wt_isLead t0) (hT_t0 : ∀ j, j < 8 → wt_dom w (t0 + j)) {σ : wt_St} {q : wt_St} (h : wp_ld_clear n t0 σ = some q) : wt_Ctr l w wt_y_ld_clear prog_2_method_6_code 1 none 1 [.ref (wt_ad w t0)] σ none q := by
  refine wt_ctr wt_pl_ld_clear rfl (Nat.le_of_ble_eq_true rfl) [some (.ref (wt_ad w t0))] rfl ?_
  intro X hXl hXw hE hR
  subst hXl
  subst hXw
  have hE : wt_Ok X prog_2_method_6_code 1 "WornType$Lead" 1 0 := hE
  unfold wp_ld_clear at h
  refine wt_aload_n hE wp_ld_clear_d0 rfl ?_
  refine wt_getr hE (r := (t0 + 1)) wt_lf_ld_9 (hT_t0 0 (Nat.le_of_ble_eq_true rfl)) (hI_t0.1) rfl wp_ld_clear_d1 ?_
  refine wt_iconst hE (0 : Int32) wp_ld_clear_d4 wt_ci_0 ?_
  obtain ⟨q1, hq1, h⟩ := wt_bi h
  refine wt_callSv hE [.ref (wt_ad (wt_xw X) ((t0 + 1))), .int (0 : Int32)] wt_lm_ld_68 wt_ya_ap_fillRow (wp_ap_fillRow_ok (wt_lnE (wt_isLead_L1 hI_t0)) (hT_t0 1 (Nat.le_of_ble_eq_true rfl)) hq1) (by omega) rfl rfl (Nat.le_of_ble_eq_true rfl) (Nat.zero_le _) wp_ld_clear_d5 ?_
  refine wt_aload_n hE wp_ld_clear_d8 rfl ?_
  refine wt_getr hE (r := (t0 + 2)) wt_lf_ld_15 (hT_t0 0 (Nat.le_of_ble_eq_true rfl)) (hI_t0.1) rfl wp_ld_clear_d9 ?_
  refine wt_iconst hE (0 : Int32) wp_ld_clear_d12 wt_ci_0 ?_
  obtain ⟨q2, hq2, h⟩ := wt_bi h
  refine wt_callSv hE [.ref (wt_ad (wt_xw X) ((t0 + 2))), .int (0 : Int32)] wt_lm_ld_68 wt_ya_ap_fillRow (wp_ap_fillRow_ok (wt_lnE (wt_isLead_L2 hI_t0)) (hT_t0 2 (Nat.le_of_ble_eq_true rfl)) hq2) (by omega) rfl rfl (Nat.le_of_ble_eq_true rfl) (Nat.zero_le _) wp_ld_clear_d13 ?_
  refine wt_aload_n hE wp_ld_clear_d16 rfl ?_
  refine wt_getr hE (r := (t0 + 3)) wt_lf_ld_18 (hT_t0 0 (Nat.le_of_ble_eq_true rfl)) (hI_t0.1) rfl wp_ld_clear_d17 ?_
  refine wt_iconst hE (0 : Int32) wp_ld_clear_d20 wt_ci_0 ?_
  obtain ⟨q3, hq3, h⟩ := wt_bi h
  refine wt_callSv hE [.ref (wt_ad (wt_xw X) ((t0 + 3))), .int (0 : Int32)] wt_lm_ld_68 wt_ya_ap_fillRow (wp_ap_fillRow_ok (wt_lnE (wt_isLead_L3 hI_t0)) (hT_t0 3 (Nat.le_of_ble_eq_true rfl)) hq3) (by omega) rfl rfl (Nat.le_of_ble_eq_true rfl) (Nat.zero_le _) wp_ld_clear_d21 ?_
  refine wt_aload_n hE wp_ld_clear_d24 rfl ?_
  refine wt_getr hE (r := (t0 + 4)) wt_lf_ld_21 (hT_t0 0 (Nat.le_of_ble_eq_true rfl)) (hI_t0.1) rfl wp_ld_clear_d25 ?_
  refine wt_iconst hE (0 : Int32) wp_ld_clear_d28 wt_ci_0 ?_
  obtain ⟨q4, hq4, h⟩ := wt_bi h
  refine wt_callSv hE [.ref (wt_ad (wt_xw X) ((t0 + 4))), .int (0 : Int32)] wt_lm_ld_68 wt_ya_ap_fillRow (wp_ap_fillRow_ok (wt_lnE (wt_isLead_L4 hI_t0)) (hT_t0 4 (Nat.le_of_ble_eq_true rfl)) hq4) (by omega) rfl rfl (Nat.le_of_ble_eq_true rfl) (Nat.zero_le _) wp_ld_clear_d29 ?_
  refine wt_aload_n hE wp_ld_clear_d32 rfl ?_
  refine wt_getr hE (r := (t0 + 5)) wt_lf_ld_24 (hT_t0 0 (Nat.le_of_ble_eq_true rfl)) (hI_t0.1) rfl wp_ld_clear_d33 ?_
  refine wt_iconst hE (1 : Int32) wp_ld_clear_d36 wt_ci_1 ?_
  obtain ⟨q5, hq5, h⟩ := wt_bi h
  refine wt_callSv hE [.ref (wt_ad (wt_xw X) ((t0 + 5))), .int (1 : Int32)] wt_lm_ld_68 wt_ya_ap_fillRow (wp_ap_fillRow_ok (wt_lnE (wt_isLead_L5 hI_t0)) (hT_t0 5 (Nat.le_of_ble_eq_true rfl)) hq5) (by omega) rfl rfl (Nat.le_of_ble_eq_true rfl) (Nat.zero_le _) wp_ld_clear_d37 ?_
  refine wt_aload_n hE wp_ld_clear_d40 rfl ?_
  refine wt_getr hE (r := (t0 + 6)) wt_lf_ld_27 (hT_t0 0 (Nat.le_of_ble_eq_true rfl)) (hI_t0.1) rfl wp_ld_clear_d41 ?_
  refine wt_iconst hE (-1 : Int32) wp_ld_clear_d44 wt_ci_m1 ?_
  obtain ⟨q6, hq6, h⟩ := wt_bi h
  refine wt_callSv hE [.ref (wt_ad (wt_xw X) ((t0 + 6))), .int (-1 : Int32)] wt_lm_ld_68 wt_ya_ap_fillRow (wp_ap_fillRow_ok (wt_lnE (wt_isLead_L6 hI_t0)) (hT_t0 6 (Nat.le_of_ble_eq_true rfl)) hq6) (by omega) rfl rfl (Nat.le_of_ble_eq_true rfl) (Nat.zero_le _) wp_ld_clear_d45 ?_
  refine wt_aload_n hE wp_ld_clear_d48 rfl ?_
  refine wt_getr hE (r := (t0 + 7)) wt_lf_ld_30 (hT_t0 0 (Nat.le_of_ble_eq_true rfl)) (hI_t0.1) rfl wp_ld_clear_d49 ?_
  refine wt_iconst hE (0 : Int32) wp_ld_clear_d52 wt_ci_0 ?_
  obtain ⟨q7, hq7, h⟩ := wt_bi h
  refine wt_callSv hE [.ref (wt_ad (wt_xw X) ((t0 + 7))), .int (0 : Int32)] wt_lm_ld_68 wt_ya_ap_fillRow (wp_ap_fillRow_ok (wt_lnE (wt_isLead_L7 hI_t0)) (hT_t0 7 (Nat.le_of_ble_eq_true rfl)) hq7) (by omega) rfl rfl (Nat.le_of_ble_eq_true rfl) (Nat.zero_le _) wp_ld_clear_d53 ?_
  refine wt_aload_n hE wp_ld_clear_d56 rfl ?_
  refine wt_iconst hE (0 : Int32) wp_ld_clear_d57 wt_ci_0 ?_
  refine wt_puti hE wt_lf_ld_40 (hT_t0 0 (Nat.le_of_ble_eq_true rfl)) (hI_t0.1) rfl (fun q hq => by cases hq; rfl) wp_ld_clear_d58 ?_
  cases h
  exact wt_vret hE hR wp_ld_clear_d61
def wb12m2_prog_7_method_12_code_r0 : List (List Nat) := [42, 27, 181, 0, 38, 42, 42, 180, 0, 35, 181, 0, 18, 3, 172] :: []
set_option maxRecDepth 100000 in
theorem wb12m2_prog_7_method_12_code_c0 : wt_cs prog_7_method_12_code 0 wb12m2_prog_7_method_12_code_r0 := wt_cs_of (by decide +kernel)
theorem wp_tp_fail_d0 : decode prog_7_method_12_code 0 = .ok (.aload_n 0, 1) := wt_op42 wb12m2_prog_7_method_12_code_c0 0 rfl rfl
theorem wp_tp_fail_d1 : decode prog_7_method_12_code 1 = .ok (.iload_n 1, 1) := wt_op27 wb12m2_prog_7_method_12_code_c0 1 rfl rfl
theorem wp_tp_fail_d2 : decode prog_7_method_12_code 2 = .ok (.putfield 38, 3) := wt_op181 wb12m2_prog_7_method_12_code_c0 2 rfl rfl rfl
theorem wp_tp_fail_d5 : decode prog_7_method_12_code 5 = .ok (.aload_n 0, 1) := wt_op42 wb12m2_prog_7_method_12_code_c0 5 rfl rfl
theorem wp_tp_fail_d6 : decode prog_7_method_12_code 6 = .ok (.aload_n 0, 1) := wt_op42 wb12m2_prog_7_method_12_code_c0 6 rfl rfl
theorem wp_tp_fail_d7 : decode prog_7_method_12_code 7 = .ok (.getfield 35, 3) := wt_op180 wb12m2_prog_7_method_12_code_c0 7 rfl rfl rfl
theorem wp_tp_fail_d10 : decode prog_7_method_12_code 10 = .ok (.putfield 18, 3) := wt_op181 wb12m2_prog_7_method_12_code_c0 10 rfl rfl rfl
theorem wp_tp_fail_d13 : decode prog_7_method_12_code 13 = .ok (.iconst 0, 1) := wt_op3 wb12m2_prog_7_method_12_code_c0 13 rfl rfl
theorem wp_tp_fail_d14 : decode prog_7_method_12_code 14 = .ok (.ireturn, 1) := wt_op172 wb12m2_prog_7_method_12_code_c0 14 rfl rfl
noncomputable def wp_tp_fail (n : Nat) (x1 : Int32) (σ : wt_St) : Option (Int32 × wt_St) :=
  some ((0 : Int32), (wt_sf (wt_sf σ 1 6 x1) 1 7 (wt_gf (wt_sf σ 1 6 x1) 1 5)))
set_option maxRecDepth 100000 in
set_option maxHeartbeats 4000000 in
theorem wp_tp_fail_ok {l : Launch} {w : wt_E} {n : Nat} {x1 : Int32} (hD : ∀ i, i < 108 → wt_dom w i) {σ : wt_St} {q : Int32 × wt_St} (h : wp_tp_fail n x1 σ = some q) : wt_Ctr l w wt_y_tp_fail prog_7_method_12_code 2 (some .boolean) 0 [.ref (wt_ad w 1), .int x1] σ (some q.1) q.2 := by
  refine wt_ctr wt_pl_tp_fail rfl (Nat.le_of_ble_eq_true rfl) [some (.ref (wt_ad w 1)), some (.int x1)] rfl ?_
  intro X hXl hXw hE hR
  subst hXl
  subst hXw
  have hE : wt_Ok X prog_7_method_12_code 2 "WornType$Tape" 0 0 := hE
  unfold wp_tp_fail at h
  refine wt_aload_n hE wp_tp_fail_d0 rfl ?_
  refine wt_iload_n hE wp_tp_fail_d1 rfl ?_
  refine wt_puti hE wt_lf_tp_38 (hD 1 (Nat.le_of_ble_eq_true rfl)) wt_L1 rfl (fun q hq => by cases hq; rfl) wp_tp_fail_d2 ?_
  refine wt_aload_n hE wp_tp_fail_d5 rfl ?_
  refine wt_aload_n hE wp_tp_fail_d6 rfl ?_
  refine wt_geti hE wt_lf_tp_35 (hD 1 (Nat.le_of_ble_eq_true rfl)) wt_L1 rfl wp_tp_fail_d7 ?_
  refine wt_puti hE wt_lf_tp_18 (hD 1 (Nat.le_of_ble_eq_true rfl)) wt_L1 rfl (fun q hq => by cases hq; rfl) wp_tp_fail_d10 ?_
  refine wt_iconst hE (0 : Int32) wp_tp_fail_d13 wt_ci_0 ?_
  cases h
  exact wt_zret hE (by decide) hR wp_tp_fail_d14
def wb12m2_prog_7_method_15_code_r0 : List (List Nat) := [26, 16, 48, 161, 0, 13, 26, 16, 57, 163, 0, 7, 4, 167, 0, 4, 3, 172] :: []
set_option maxRecDepth 100000 in
theorem wb12m2_prog_7_method_15_code_c0 : wt_cs prog_7_method_15_code 0 wb12m2_prog_7_method_15_code_r0 := wt_cs_of (by decide +kernel)
theorem wp_tp_isDigit_d0 : decode prog_7_method_15_code 0 = .ok (.iload_n 0, 1) := wt_op26 wb12m2_prog_7_method_15_code_c0 0 rfl rfl
theorem wp_tp_isDigit_d1 : decode prog_7_method_15_code 1 = .ok (.bipush 48, 2) := wt_op16 wb12m2_prog_7_method_15_code_c0 1 rfl rfl rfl
theorem wp_tp_isDigit_d3 : decode prog_7_method_15_code 3 = .ok (.if_icmp .lt 13, 3) := wt_op161 wb12m2_prog_7_method_15_code_c0 3 rfl rfl rfl
theorem wp_tp_isDigit_d6 : decode prog_7_method_15_code 6 = .ok (.iload_n 0, 1) := wt_op26 wb12m2_prog_7_method_15_code_c0 6 rfl rfl
theorem wp_tp_isDigit_d7 : decode prog_7_method_15_code 7 = .ok (.bipush 57, 2) := wt_op16 wb12m2_prog_7_method_15_code_c0 7 rfl rfl rfl
theorem wp_tp_isDigit_d9 : decode prog_7_method_15_code 9 = .ok (.if_icmp .gt 7, 3) := wt_op163 wb12m2_prog_7_method_15_code_c0 9 rfl rfl rfl
theorem wp_tp_isDigit_d12 : decode prog_7_method_15_code 12 = .ok (.iconst 1, 1) := wt_op4 wb12m2_prog_7_method_15_code_c0 12 rfl rfl
theorem wp_tp_isDigit_d13 : decode prog_7_method_15_code 13 = .ok (.goto 4, 3) := wt_op167 wb12m2_prog_7_method_15_code_c0 13 rfl rfl rfl
theorem wp_tp_isDigit_d16 : decode prog_7_method_15_code 16 = .ok (.iconst 0, 1) := wt_op3 wb12m2_prog_7_method_15_code_c0 16 rfl rfl
theorem wp_tp_isDigit_d17 : decode prog_7_method_15_code 17 = .ok (.ireturn, 1) := wt_op172 wb12m2_prog_7_method_15_code_c0 17 rfl rfl
noncomputable def wp_tp_isDigit (n : Nat) (x0 : Int32) (σ : wt_St) : Option (Int32 × wt_St) :=
  if x0 < (48 : Int32) then
    some ((0 : Int32), σ)
  else
    if (57 : Int32) < x0 then
      some ((0 : Int32), σ)
    else
      some ((1 : Int32), σ)
set_option maxRecDepth 100000 in
set_option maxHeartbeats 4000000 in
theorem wp_tp_isDigit_ok {l : Launch} {w : wt_E} {n : Nat} {x0 : Int32} {σ : wt_St} {q : Int32 × wt_St} (h : wp_tp_isDigit n x0 σ = some q) : wt_Ctr l w wt_y_tp_isDigit prog_7_method_15_code 1 (some .boolean) 0 [.int x0] σ (some q.1) q.2 := by
  refine wt_ctr wt_pl_tp_isDigit rfl (Nat.le_of_ble_eq_true rfl) [some (.int x0)] rfl ?_
  intro X hXl hXw hE hR
  subst hXl
  subst hXw
  have hE : wt_Ok X prog_7_method_15_code 1 "WornType$Tape" 0 0 := hE
  unfold wp_tp_isDigit at h
  refine wt_iload_n hE wp_tp_isDigit_d0 rfl ?_
  refine wt_bipush hE (48 : Int32) wp_tp_isDigit_d1 wt_cb_48 ?_
  refine wt_icmp_lt hE 16 wp_tp_isDigit_d3 rfl (fun c1 => ?_) (fun c1 => ?_)
  · have h := wt_ip c1 h
    refine wt_iconst hE (0 : Int32) wp_tp_isDigit_d16 wt_ci_0 ?_
    cases h
    exact wt_zret hE (by decide) hR wp_tp_isDigit_d17
  · have h := wt_in c1 h
    refine wt_iload_n hE wp_tp_isDigit_d6 rfl ?_
    refine wt_bipush hE (57 : Int32) wp_tp_isDigit_d7 wt_cb_57 ?_
    refine wt_icmp_gt hE 16 wp_tp_isDigit_d9 rfl (fun c2 => ?_) (fun c2 => ?_)
    · have h := wt_ip c2 h
      refine wt_iconst hE (0 : Int32) wp_tp_isDigit_d16 wt_ci_0 ?_
      cases h
      exact wt_zret hE (by decide) hR wp_tp_isDigit_d17
    · have h := wt_in c2 h
      refine wt_iconst hE (1 : Int32) wp_tp_isDigit_d12 wt_ci_1 ?_
      refine wt_goto hE 17 wp_tp_isDigit_d13 rfl ?_
      cases h
      exact wt_zret hE (by decide) hR wp_tp_isDigit_d17
def wb12m2_prog_7_method_13_code_r1 : List (List Nat) := [89, 180, 0, 32, 4, 96, 181, 0, 32, 167, 255, 219, 42, 42, 180, 0, 32, 181, 0, 35, 177] :: []
def wb12m2_prog_7_method_13_code_r0 : List (List Nat) := [42, 180, 0, 32, 42, 180, 0, 29, 162, 0, 32, 42, 180, 0, 9, 42, 180, 0, 32, 184, 0, 44, 16, 32, 160, 0, 16, 42] :: wb12m2_prog_7_method_13_code_r1
set_option maxRecDepth 100000 in
theorem wb12m2_prog_7_method_13_code_c0 : wt_cs prog_7_method_13_code 0 wb12m2_prog_7_method_13_code_r0 := wt_cs_of (by decide +kernel)
theorem wb12m2_prog_7_method_13_code_c1 : wt_cs prog_7_method_13_code 28 wb12m2_prog_7_method_13_code_r1 := wt_cs_tl (m := 28) wb12m2_prog_7_method_13_code_c0 rfl rfl
theorem wp_tp_skipBlanks_d0 : decode prog_7_method_13_code 0 = .ok (.aload_n 0, 1) := wt_op42 wb12m2_prog_7_method_13_code_c0 0 rfl rfl
theorem wp_tp_skipBlanks_d1 : decode prog_7_method_13_code 1 = .ok (.getfield 32, 3) := wt_op180 wb12m2_prog_7_method_13_code_c0 1 rfl rfl rfl
theorem wp_tp_skipBlanks_d4 : decode prog_7_method_13_code 4 = .ok (.aload_n 0, 1) := wt_op42 wb12m2_prog_7_method_13_code_c0 4 rfl rfl
theorem wp_tp_skipBlanks_d5 : decode prog_7_method_13_code 5 = .ok (.getfield 29, 3) := wt_op180 wb12m2_prog_7_method_13_code_c0 5 rfl rfl rfl
theorem wp_tp_skipBlanks_d8 : decode prog_7_method_13_code 8 = .ok (.if_icmp .ge 32, 3) := wt_op162 wb12m2_prog_7_method_13_code_c0 8 rfl rfl rfl
theorem wp_tp_skipBlanks_d11 : decode prog_7_method_13_code 11 = .ok (.aload_n 0, 1) := wt_op42 wb12m2_prog_7_method_13_code_c0 11 rfl rfl
theorem wp_tp_skipBlanks_d12 : decode prog_7_method_13_code 12 = .ok (.getfield 9, 3) := wt_op180 wb12m2_prog_7_method_13_code_c0 12 rfl rfl rfl
theorem wp_tp_skipBlanks_d15 : decode prog_7_method_13_code 15 = .ok (.aload_n 0, 1) := wt_op42 wb12m2_prog_7_method_13_code_c0 15 rfl rfl
theorem wp_tp_skipBlanks_d16 : decode prog_7_method_13_code 16 = .ok (.getfield 32, 3) := wt_op180 wb12m2_prog_7_method_13_code_c0 16 rfl rfl rfl
theorem wp_tp_skipBlanks_d19 : decode prog_7_method_13_code 19 = .ok (.invokestatic 44, 3) := wt_op184 wb12m2_prog_7_method_13_code_c0 19 rfl rfl rfl
theorem wp_tp_skipBlanks_d22 : decode prog_7_method_13_code 22 = .ok (.bipush 32, 2) := wt_op16 wb12m2_prog_7_method_13_code_c0 22 rfl rfl rfl
theorem wp_tp_skipBlanks_d24 : decode prog_7_method_13_code 24 = .ok (.if_icmp .ne 16, 3) := wt_op160 wb12m2_prog_7_method_13_code_c0 24 rfl rfl rfl
theorem wp_tp_skipBlanks_d27 : decode prog_7_method_13_code 27 = .ok (.aload_n 0, 1) := wt_op42 wb12m2_prog_7_method_13_code_c0 27 rfl rfl
theorem wp_tp_skipBlanks_d28 : decode prog_7_method_13_code 28 = .ok (.dup, 1) := wt_op89 wb12m2_prog_7_method_13_code_c1 0 rfl rfl
theorem wp_tp_skipBlanks_d29 : decode prog_7_method_13_code 29 = .ok (.getfield 32, 3) := wt_op180 wb12m2_prog_7_method_13_code_c1 1 rfl rfl rfl
theorem wp_tp_skipBlanks_d32 : decode prog_7_method_13_code 32 = .ok (.iconst 1, 1) := wt_op4 wb12m2_prog_7_method_13_code_c1 4 rfl rfl
theorem wp_tp_skipBlanks_d33 : decode prog_7_method_13_code 33 = .ok (.iadd, 1) := wt_op96 wb12m2_prog_7_method_13_code_c1 5 rfl rfl
theorem wp_tp_skipBlanks_d34 : decode prog_7_method_13_code 34 = .ok (.putfield 32, 3) := wt_op181 wb12m2_prog_7_method_13_code_c1 6 rfl rfl rfl
theorem wp_tp_skipBlanks_d37 : decode prog_7_method_13_code 37 = .ok (.goto (-37), 3) := wt_op167 wb12m2_prog_7_method_13_code_c1 9 rfl rfl rfl
theorem wp_tp_skipBlanks_d40 : decode prog_7_method_13_code 40 = .ok (.aload_n 0, 1) := wt_op42 wb12m2_prog_7_method_13_code_c1 12 rfl rfl
theorem wp_tp_skipBlanks_d41 : decode prog_7_method_13_code 41 = .ok (.aload_n 0, 1) := wt_op42 wb12m2_prog_7_method_13_code_c1 13 rfl rfl
theorem wp_tp_skipBlanks_d42 : decode prog_7_method_13_code 42 = .ok (.getfield 32, 3) := wt_op180 wb12m2_prog_7_method_13_code_c1 14 rfl rfl rfl
theorem wp_tp_skipBlanks_d45 : decode prog_7_method_13_code 45 = .ok (.putfield 35, 3) := wt_op181 wb12m2_prog_7_method_13_code_c1 17 rfl rfl rfl
theorem wp_tp_skipBlanks_d48 : decode prog_7_method_13_code 48 = .ok (.return_, 1) := wt_op177 wb12m2_prog_7_method_13_code_c1 20 rfl rfl
noncomputable def wp_tp_skipBlanks_B40 (n : Nat) (σ : wt_St) : Option (wt_St) :=
  some (wt_sf σ 1 5 (wt_gf σ 1 4))
set_option maxRecDepth 100000 in
set_option maxHeartbeats 4000000 in
theorem wp_tp_skipBlanks_B40_ok  {X : wt_X} {n : Nat} {res : wt_St} (hE : wt_Ok X prog_7_method_13_code 1 "WornType$Tape" 1 0) (hR : wt_Rt X none none res) (hD : ∀ i, i < 108 → wt_dom (wt_xw X) i)  {σ : wt_St} (h : wp_tp_skipBlanks_B40 n σ = some res) : wt_V X 0 σ 40 [some (.ref (wt_ad (wt_xw X) 1))] [] := by
  unfold wp_tp_skipBlanks_B40 at h
  refine wt_aload_n hE wp_tp_skipBlanks_d40 rfl ?_
  refine wt_aload_n hE wp_tp_skipBlanks_d41 rfl ?_
  refine wt_geti hE wt_lf_tp_32 (hD 1 (Nat.le_of_ble_eq_true rfl)) wt_L1 rfl wp_tp_skipBlanks_d42 ?_
  refine wt_puti hE wt_lf_tp_35 (hD 1 (Nat.le_of_ble_eq_true rfl)) wt_L1 rfl (fun q hq => by cases hq; rfl) wp_tp_skipBlanks_d45 ?_
  cases h
  exact wt_vret hE hR wp_tp_skipBlanks_d48
noncomputable def wp_tp_skipBlanks_B0 (n : Nat) (K0 : wt_St → Option (wt_St)) (s : wt_St) : Option (wt_St) :=
  if (wt_gf s 1 3) ≤ (wt_gf s 1 4) then
    wp_tp_skipBlanks_B40 n s
  else
    (wp_ap_look n 2 (wt_gf s 1 4) s).bind fun q2 =>
    if q2.1 = (32 : Int32) then
      K0 (wt_sf q2.2 1 4 ((wt_gf q2.2 1 4) + (1 : Int32)))
    else
      wp_tp_skipBlanks_B40 n q2.2
set_option maxRecDepth 100000 in
set_option maxHeartbeats 4000000 in
theorem wp_tp_skipBlanks_B0_ok  {X : wt_X} {n : Nat} {res : wt_St} (hE : wt_Ok X prog_7_method_13_code 1 "WornType$Tape" 1 0) (hR : wt_Rt X none none res) (hD : ∀ i, i < 108 → wt_dom (wt_xw X) i)  {K0 : wt_St → Option (wt_St)} (hK0 : ∀ s : wt_St, K0 s = some res → wt_V X 0 s 0 [some (.ref (wt_ad (wt_xw X) 1))] []) {s : wt_St} (h : wp_tp_skipBlanks_B0 n K0 s = some res) : wt_V X 0 s 0 [some (.ref (wt_ad (wt_xw X) 1))] [] := by
  unfold wp_tp_skipBlanks_B0 at h
  refine wt_aload_n hE wp_tp_skipBlanks_d0 rfl ?_
  refine wt_geti hE wt_lf_tp_32 (hD 1 (Nat.le_of_ble_eq_true rfl)) wt_L1 rfl wp_tp_skipBlanks_d1 ?_
  refine wt_aload_n hE wp_tp_skipBlanks_d4 rfl ?_
  refine wt_geti hE wt_lf_tp_29 (hD 1 (Nat.le_of_ble_eq_true rfl)) wt_L1 rfl wp_tp_skipBlanks_d5 ?_
  refine wt_icmp_ge hE 40 wp_tp_skipBlanks_d8 rfl (fun c1 => ?_) (fun c1 => ?_)
  · have h := wt_ip c1 h
    exact wp_tp_skipBlanks_B40_ok hE hR hD h
  · have h := wt_in c1 h
    refine wt_aload_n hE wp_tp_skipBlanks_d11 rfl ?_
    refine wt_getr hE (r := 2) wt_lf_tp_9 (hD 1 (Nat.le_of_ble_eq_true rfl)) wt_L1 rfl wp_tp_skipBlanks_d12 ?_
    refine wt_aload_n hE wp_tp_skipBlanks_d15 rfl ?_
    refine wt_geti hE wt_lf_tp_32 (hD 1 (Nat.le_of_ble_eq_true rfl)) wt_L1 rfl wp_tp_skipBlanks_d16 ?_
    obtain ⟨q2, hq2, h⟩ := wt_bi h
    refine wt_callSi hE [.ref (wt_ad (wt_xw X) 2), .int (wt_gf s 1 4)] wt_lm_tp_44 wt_ya_ap_look (wp_ap_look_ok (wt_lnE wt_L2) (hD 2 (Nat.le_of_ble_eq_true rfl)) hq2) (by omega) rfl rfl (Nat.le_of_ble_eq_true rfl) (Nat.zero_le _) wp_tp_skipBlanks_d19 (fun hbq2 => ?_)
    refine wt_bipush hE (32 : Int32) wp_tp_skipBlanks_d22 wt_cb_32 ?_
    refine wt_icmp_ne hE 40 wp_tp_skipBlanks_d24 rfl (fun c3 => ?_) (fun c3 => ?_)
    · have h := wt_in c3 h
      exact wp_tp_skipBlanks_B40_ok hE hR hD h
    · have h := wt_ip c3 h
      refine wt_aload_n hE wp_tp_skipBlanks_d27 rfl ?_
      refine wt_dup hE wp_tp_skipBlanks_d28 rfl ?_
      refine wt_geti hE wt_lf_tp_32 (hD 1 (Nat.le_of_ble_eq_true rfl)) wt_L1 rfl wp_tp_skipBlanks_d29 ?_
      refine wt_iconst hE (1 : Int32) wp_tp_skipBlanks_d32 wt_ci_1 ?_
      refine wt_iadd hE wp_tp_skipBlanks_d33 ?_
      refine wt_puti hE wt_lf_tp_32 (hD 1 (Nat.le_of_ble_eq_true rfl)) wt_L1 rfl (fun q hq => by cases hq; rfl) wp_tp_skipBlanks_d34 ?_
      refine wt_goto hE 0 wp_tp_skipBlanks_d37 rfl ?_
      exact hK0 (wt_sf q2.2 1 4 ((wt_gf q2.2 1 4) + (1 : Int32))) h
noncomputable def wp_tp_skipBlanks (n : Nat) (σ : wt_St) : Option (wt_St) :=
  wt_it (wp_tp_skipBlanks_B0 n) n σ
set_option maxRecDepth 100000 in
set_option maxHeartbeats 4000000 in
theorem wp_tp_skipBlanks_ok {l : Launch} {w : wt_E} {n : Nat} (hD : ∀ i, i < 108 → wt_dom w i) {σ : wt_St} {q : wt_St} (h : wp_tp_skipBlanks n σ = some q) : wt_Ctr l w wt_y_tp_skipBlanks prog_7_method_13_code 1 none 1 [.ref (wt_ad w 1)] σ none q := by
  refine wt_ctr wt_pl_tp_skipBlanks rfl (Nat.le_of_ble_eq_true rfl) [some (.ref (wt_ad w 1))] rfl ?_
  intro X hXl hXw hE hR
  subst hXl
  subst hXw
  have hE : wt_Ok X prog_7_method_13_code 1 "WornType$Tape" 1 0 := hE
  unfold wp_tp_skipBlanks at h
  exact wt_it_ind (fun z => wt_V X 0 z 0 [some (.ref (wt_ad (wt_xw X) 1))] []) (fun K hK z h => wp_tp_skipBlanks_B0_ok hE hR hD hK h) n σ h
def wb12m2_prog_7_method_9_code_r3 : List (List Nat) := [87, 2, 172, 29, 27, 161, 0, 8, 29, 28, 164, 0, 11, 42, 5, 182, 0, 52, 87, 2, 172, 29, 172] :: []
def wb12m2_prog_7_method_9_code_r2 : List (List Nat) := [62, 42, 89, 180, 0, 32, 4, 96, 181, 0, 32, 167, 255, 193, 42, 180, 0, 32, 42, 180, 0, 35, 160, 0, 11, 42, 4, 182, 0, 52] :: wb12m2_prog_7_method_9_code_r3
def wb12m2_prog_7_method_9_code_r1 : List (List Nat) := [184, 0, 72, 153, 0, 41, 29, 16, 10, 104, 42, 180, 0, 9, 42, 180, 0, 32, 184, 0, 44, 96, 16, 48, 100, 18, 75, 184, 0, 76] :: wb12m2_prog_7_method_9_code_r2
def wb12m2_prog_7_method_9_code_r0 : List (List Nat) := [42, 182, 0, 41, 3, 62, 42, 180, 0, 32, 42, 180, 0, 29, 162, 0, 58, 42, 180, 0, 9, 42, 180, 0, 32, 184, 0, 44] :: wb12m2_prog_7_method_9_code_r1
set_option maxRecDepth 100000 in
theorem wb12m2_prog_7_method_9_code_c0 : wt_cs prog_7_method_9_code 0 wb12m2_prog_7_method_9_code_r0 := wt_cs_of (by decide +kernel)
theorem wb12m2_prog_7_method_9_code_c1 : wt_cs prog_7_method_9_code 28 wb12m2_prog_7_method_9_code_r1 := wt_cs_tl (m := 28) wb12m2_prog_7_method_9_code_c0 rfl rfl
theorem wb12m2_prog_7_method_9_code_c2 : wt_cs prog_7_method_9_code 58 wb12m2_prog_7_method_9_code_r2 := wt_cs_tl (m := 30) wb12m2_prog_7_method_9_code_c1 rfl rfl
theorem wb12m2_prog_7_method_9_code_c3 : wt_cs prog_7_method_9_code 88 wb12m2_prog_7_method_9_code_r3 := wt_cs_tl (m := 30) wb12m2_prog_7_method_9_code_c2 rfl rfl
theorem wp_tp_takeNumber_d0 : decode prog_7_method_9_code 0 = .ok (.aload_n 0, 1) := wt_op42 wb12m2_prog_7_method_9_code_c0 0 rfl rfl
theorem wp_tp_takeNumber_d1 : decode prog_7_method_9_code 1 = .ok (.invokevirtual 41, 3) := wt_op182 wb12m2_prog_7_method_9_code_c0 1 rfl rfl rfl
theorem wp_tp_takeNumber_d4 : decode prog_7_method_9_code 4 = .ok (.iconst 0, 1) := wt_op3 wb12m2_prog_7_method_9_code_c0 4 rfl rfl
theorem wp_tp_takeNumber_d5 : decode prog_7_method_9_code 5 = .ok (.istore_n 3, 1) := wt_op62 wb12m2_prog_7_method_9_code_c0 5 rfl rfl
theorem wp_tp_takeNumber_d6 : decode prog_7_method_9_code 6 = .ok (.aload_n 0, 1) := wt_op42 wb12m2_prog_7_method_9_code_c0 6 rfl rfl
theorem wp_tp_takeNumber_d7 : decode prog_7_method_9_code 7 = .ok (.getfield 32, 3) := wt_op180 wb12m2_prog_7_method_9_code_c0 7 rfl rfl rfl
theorem wp_tp_takeNumber_d10 : decode prog_7_method_9_code 10 = .ok (.aload_n 0, 1) := wt_op42 wb12m2_prog_7_method_9_code_c0 10 rfl rfl
theorem wp_tp_takeNumber_d11 : decode prog_7_method_9_code 11 = .ok (.getfield 29, 3) := wt_op180 wb12m2_prog_7_method_9_code_c0 11 rfl rfl rfl
theorem wp_tp_takeNumber_d14 : decode prog_7_method_9_code 14 = .ok (.if_icmp .ge 58, 3) := wt_op162 wb12m2_prog_7_method_9_code_c0 14 rfl rfl rfl
theorem wp_tp_takeNumber_d17 : decode prog_7_method_9_code 17 = .ok (.aload_n 0, 1) := wt_op42 wb12m2_prog_7_method_9_code_c0 17 rfl rfl
theorem wp_tp_takeNumber_d18 : decode prog_7_method_9_code 18 = .ok (.getfield 9, 3) := wt_op180 wb12m2_prog_7_method_9_code_c0 18 rfl rfl rfl
theorem wp_tp_takeNumber_d21 : decode prog_7_method_9_code 21 = .ok (.aload_n 0, 1) := wt_op42 wb12m2_prog_7_method_9_code_c0 21 rfl rfl
theorem wp_tp_takeNumber_d22 : decode prog_7_method_9_code 22 = .ok (.getfield 32, 3) := wt_op180 wb12m2_prog_7_method_9_code_c0 22 rfl rfl rfl
theorem wp_tp_takeNumber_d25 : decode prog_7_method_9_code 25 = .ok (.invokestatic 44, 3) := wt_op184 wb12m2_prog_7_method_9_code_c0 25 rfl rfl rfl
theorem wp_tp_takeNumber_d28 : decode prog_7_method_9_code 28 = .ok (.invokestatic 72, 3) := wt_op184 wb12m2_prog_7_method_9_code_c1 0 rfl rfl rfl
theorem wp_tp_takeNumber_d31 : decode prog_7_method_9_code 31 = .ok (.ifCond .eq 41, 3) := wt_op153 wb12m2_prog_7_method_9_code_c1 3 rfl rfl rfl
theorem wp_tp_takeNumber_d34 : decode prog_7_method_9_code 34 = .ok (.iload_n 3, 1) := wt_op29 wb12m2_prog_7_method_9_code_c1 6 rfl rfl
theorem wp_tp_takeNumber_d35 : decode prog_7_method_9_code 35 = .ok (.bipush 10, 2) := wt_op16 wb12m2_prog_7_method_9_code_c1 7 rfl rfl rfl
theorem wp_tp_takeNumber_d37 : decode prog_7_method_9_code 37 = .ok (.imul, 1) := wt_op104 wb12m2_prog_7_method_9_code_c1 9 rfl rfl
theorem wp_tp_takeNumber_d38 : decode prog_7_method_9_code 38 = .ok (.aload_n 0, 1) := wt_op42 wb12m2_prog_7_method_9_code_c1 10 rfl rfl
theorem wp_tp_takeNumber_d39 : decode prog_7_method_9_code 39 = .ok (.getfield 9, 3) := wt_op180 wb12m2_prog_7_method_9_code_c1 11 rfl rfl rfl
theorem wp_tp_takeNumber_d42 : decode prog_7_method_9_code 42 = .ok (.aload_n 0, 1) := wt_op42 wb12m2_prog_7_method_9_code_c1 14 rfl rfl
theorem wp_tp_takeNumber_d43 : decode prog_7_method_9_code 43 = .ok (.getfield 32, 3) := wt_op180 wb12m2_prog_7_method_9_code_c1 15 rfl rfl rfl
theorem wp_tp_takeNumber_d46 : decode prog_7_method_9_code 46 = .ok (.invokestatic 44, 3) := wt_op184 wb12m2_prog_7_method_9_code_c1 18 rfl rfl rfl
theorem wp_tp_takeNumber_d49 : decode prog_7_method_9_code 49 = .ok (.iadd, 1) := wt_op96 wb12m2_prog_7_method_9_code_c1 21 rfl rfl
theorem wp_tp_takeNumber_d50 : decode prog_7_method_9_code 50 = .ok (.bipush 48, 2) := wt_op16 wb12m2_prog_7_method_9_code_c1 22 rfl rfl rfl
theorem wp_tp_takeNumber_d52 : decode prog_7_method_9_code 52 = .ok (.isub, 1) := wt_op100 wb12m2_prog_7_method_9_code_c1 24 rfl rfl
theorem wp_tp_takeNumber_d53 : decode prog_7_method_9_code 53 = .ok (.ldc 75, 2) := wt_op18 wb12m2_prog_7_method_9_code_c1 25 rfl rfl
theorem wp_tp_takeNumber_d55 : decode prog_7_method_9_code 55 = .ok (.invokestatic 76, 3) := wt_op184 wb12m2_prog_7_method_9_code_c1 27 rfl rfl rfl
theorem wp_tp_takeNumber_d58 : decode prog_7_method_9_code 58 = .ok (.istore_n 3, 1) := wt_op62 wb12m2_prog_7_method_9_code_c2 0 rfl rfl
theorem wp_tp_takeNumber_d59 : decode prog_7_method_9_code 59 = .ok (.aload_n 0, 1) := wt_op42 wb12m2_prog_7_method_9_code_c2 1 rfl rfl
theorem wp_tp_takeNumber_d60 : decode prog_7_method_9_code 60 = .ok (.dup, 1) := wt_op89 wb12m2_prog_7_method_9_code_c2 2 rfl rfl
theorem wp_tp_takeNumber_d61 : decode prog_7_method_9_code 61 = .ok (.getfield 32, 3) := wt_op180 wb12m2_prog_7_method_9_code_c2 3 rfl rfl rfl
theorem wp_tp_takeNumber_d64 : decode prog_7_method_9_code 64 = .ok (.iconst 1, 1) := wt_op4 wb12m2_prog_7_method_9_code_c2 6 rfl rfl
theorem wp_tp_takeNumber_d65 : decode prog_7_method_9_code 65 = .ok (.iadd, 1) := wt_op96 wb12m2_prog_7_method_9_code_c2 7 rfl rfl
theorem wp_tp_takeNumber_d66 : decode prog_7_method_9_code 66 = .ok (.putfield 32, 3) := wt_op181 wb12m2_prog_7_method_9_code_c2 8 rfl rfl rfl
theorem wp_tp_takeNumber_d69 : decode prog_7_method_9_code 69 = .ok (.goto (-63), 3) := wt_op167 wb12m2_prog_7_method_9_code_c2 11 rfl rfl rfl
theorem wp_tp_takeNumber_d72 : decode prog_7_method_9_code 72 = .ok (.aload_n 0, 1) := wt_op42 wb12m2_prog_7_method_9_code_c2 14 rfl rfl
theorem wp_tp_takeNumber_d73 : decode prog_7_method_9_code 73 = .ok (.getfield 32, 3) := wt_op180 wb12m2_prog_7_method_9_code_c2 15 rfl rfl rfl
theorem wp_tp_takeNumber_d76 : decode prog_7_method_9_code 76 = .ok (.aload_n 0, 1) := wt_op42 wb12m2_prog_7_method_9_code_c2 18 rfl rfl
theorem wp_tp_takeNumber_d77 : decode prog_7_method_9_code 77 = .ok (.getfield 35, 3) := wt_op180 wb12m2_prog_7_method_9_code_c2 19 rfl rfl rfl
theorem wp_tp_takeNumber_d80 : decode prog_7_method_9_code 80 = .ok (.if_icmp .ne 11, 3) := wt_op160 wb12m2_prog_7_method_9_code_c2 22 rfl rfl rfl
theorem wp_tp_takeNumber_d83 : decode prog_7_method_9_code 83 = .ok (.aload_n 0, 1) := wt_op42 wb12m2_prog_7_method_9_code_c2 25 rfl rfl
theorem wp_tp_takeNumber_d84 : decode prog_7_method_9_code 84 = .ok (.iconst 1, 1) := wt_op4 wb12m2_prog_7_method_9_code_c2 26 rfl rfl
theorem wp_tp_takeNumber_d85 : decode prog_7_method_9_code 85 = .ok (.invokevirtual 52, 3) := wt_op182 wb12m2_prog_7_method_9_code_c2 27 rfl rfl rfl
theorem wp_tp_takeNumber_d88 : decode prog_7_method_9_code 88 = .ok (.pop, 1) := wt_op87 wb12m2_prog_7_method_9_code_c3 0 rfl rfl
theorem wp_tp_takeNumber_d89 : decode prog_7_method_9_code 89 = .ok (.iconst (-1), 1) := wt_op2 wb12m2_prog_7_method_9_code_c3 1 rfl rfl
theorem wp_tp_takeNumber_d90 : decode prog_7_method_9_code 90 = .ok (.ireturn, 1) := wt_op172 wb12m2_prog_7_method_9_code_c3 2 rfl rfl
theorem wp_tp_takeNumber_d91 : decode prog_7_method_9_code 91 = .ok (.iload_n 3, 1) := wt_op29 wb12m2_prog_7_method_9_code_c3 3 rfl rfl
theorem wp_tp_takeNumber_d92 : decode prog_7_method_9_code 92 = .ok (.iload_n 1, 1) := wt_op27 wb12m2_prog_7_method_9_code_c3 4 rfl rfl
theorem wp_tp_takeNumber_d93 : decode prog_7_method_9_code 93 = .ok (.if_icmp .lt 8, 3) := wt_op161 wb12m2_prog_7_method_9_code_c3 5 rfl rfl rfl
theorem wp_tp_takeNumber_d96 : decode prog_7_method_9_code 96 = .ok (.iload_n 3, 1) := wt_op29 wb12m2_prog_7_method_9_code_c3 8 rfl rfl
theorem wp_tp_takeNumber_d97 : decode prog_7_method_9_code 97 = .ok (.iload_n 2, 1) := wt_op28 wb12m2_prog_7_method_9_code_c3 9 rfl rfl
theorem wp_tp_takeNumber_d98 : decode prog_7_method_9_code 98 = .ok (.if_icmp .le 11, 3) := wt_op164 wb12m2_prog_7_method_9_code_c3 10 rfl rfl rfl
theorem wp_tp_takeNumber_d101 : decode prog_7_method_9_code 101 = .ok (.aload_n 0, 1) := wt_op42 wb12m2_prog_7_method_9_code_c3 13 rfl rfl
theorem wp_tp_takeNumber_d102 : decode prog_7_method_9_code 102 = .ok (.iconst 2, 1) := wt_op5 wb12m2_prog_7_method_9_code_c3 14 rfl rfl
theorem wp_tp_takeNumber_d103 : decode prog_7_method_9_code 103 = .ok (.invokevirtual 52, 3) := wt_op182 wb12m2_prog_7_method_9_code_c3 15 rfl rfl rfl
theorem wp_tp_takeNumber_d106 : decode prog_7_method_9_code 106 = .ok (.pop, 1) := wt_op87 wb12m2_prog_7_method_9_code_c3 18 rfl rfl
theorem wp_tp_takeNumber_d107 : decode prog_7_method_9_code 107 = .ok (.iconst (-1), 1) := wt_op2 wb12m2_prog_7_method_9_code_c3 19 rfl rfl
theorem wp_tp_takeNumber_d108 : decode prog_7_method_9_code 108 = .ok (.ireturn, 1) := wt_op172 wb12m2_prog_7_method_9_code_c3 20 rfl rfl
theorem wp_tp_takeNumber_d109 : decode prog_7_method_9_code 109 = .ok (.iload_n 3, 1) := wt_op29 wb12m2_prog_7_method_9_code_c3 21 rfl rfl
theorem wp_tp_takeNumber_d110 : decode prog_7_method_9_code 110 = .ok (.ireturn, 1) := wt_op172 wb12m2_prog_7_method_9_code_c3 22 rfl rfl
noncomputable def wp_tp_takeNumber_B101 (n : Nat) (σ : wt_St) : Option (Int32 × wt_St) :=
  (wp_tp_fail n (2 : Int32) σ).bind fun q5 =>
  some ((-1 : Int32), q5.2)
set_option maxRecDepth 100000 in
set_option maxHeartbeats 4000000 in
theorem wp_tp_takeNumber_B101_ok  {X : wt_X} {n : Nat} {res : Int32 × wt_St} (hE : wt_Ok X prog_7_method_9_code 4 "WornType$Tape" 2 0) (hR : wt_Rt X (some .int) (some res.1) res.2) (hD : ∀ i, i < 108 → wt_dom (wt_xw X) i)  {σ : wt_St} (h : wp_tp_takeNumber_B101 n σ = some res) : wt_V X 0 σ 101 [some (.ref (wt_ad (wt_xw X) 1)), none, none, none] [] := by
  unfold wp_tp_takeNumber_B101 at h
  refine wt_aload_n hE wp_tp_takeNumber_d101 rfl ?_
  refine wt_iconst hE (2 : Int32) wp_tp_takeNumber_d102 wt_ci_2 ?_
  obtain ⟨q5, hq5, h⟩ := wt_bi h
  refine wt_callVi hE [.int (2 : Int32)] wt_lm_tp_52 wt_ya_tp_fail (wp_tp_fail_ok hD hq5) (by omega) (hD 1 (Nat.le_of_ble_eq_true rfl)) wt_L1 rfl rfl rfl (Nat.le_of_ble_eq_true rfl) (Nat.zero_le _) wp_tp_takeNumber_d103 (fun hbq5 => ?_)
  refine wt_pop hE wp_tp_takeNumber_d106 rfl ?_
  refine wt_iconst hE (-1 : Int32) wp_tp_takeNumber_d107 wt_ci_m1 ?_
  cases h
  exact wt_iret hE hR wp_tp_takeNumber_d108
noncomputable def wp_tp_takeNumber_B72 (n : Nat) (x1 : Int32) (x2 : Int32) (x3 : Int32) (σ : wt_St) : Option (Int32 × wt_St) :=
  if (wt_gf σ 1 4) = (wt_gf σ 1 5) then
    (wp_tp_fail n (1 : Int32) σ).bind fun q7 =>
    some ((-1 : Int32), q7.2)
  else
    if x3 < x1 then
      wp_tp_takeNumber_B101 n σ
    else
      if x3 ≤ x2 then
        some (x3, σ)
      else
        wp_tp_takeNumber_B101 n σ
set_option maxRecDepth 100000 in
set_option maxHeartbeats 4000000 in
theorem wp_tp_takeNumber_B72_ok  {x1 : Int32} {x2 : Int32} {x3 : Int32} {X : wt_X} {n : Nat} {res : Int32 × wt_St} (hE : wt_Ok X prog_7_method_9_code 4 "WornType$Tape" 2 0) (hR : wt_Rt X (some .int) (some res.1) res.2) (hD : ∀ i, i < 108 → wt_dom (wt_xw X) i)  {σ : wt_St} (h : wp_tp_takeNumber_B72 n x1 x2 x3 σ = some res) : wt_V X 0 σ 72 [some (.ref (wt_ad (wt_xw X) 1)), some (.int x1), some (.int x2), some (.int x3)] [] := by
  unfold wp_tp_takeNumber_B72 at h
  refine wt_aload_n hE wp_tp_takeNumber_d72 rfl ?_
  refine wt_geti hE wt_lf_tp_32 (hD 1 (Nat.le_of_ble_eq_true rfl)) wt_L1 rfl wp_tp_takeNumber_d73 ?_
  refine wt_aload_n hE wp_tp_takeNumber_d76 rfl ?_
  refine wt_geti hE wt_lf_tp_35 (hD 1 (Nat.le_of_ble_eq_true rfl)) wt_L1 rfl wp_tp_takeNumber_d77 ?_
  refine wt_icmp_ne hE 91 wp_tp_takeNumber_d80 rfl (fun c3 => ?_) (fun c3 => ?_)
  · have h := wt_in c3 h
    refine wt_iload_n hE wp_tp_takeNumber_d91 rfl ?_
    refine wt_iload_n hE wp_tp_takeNumber_d92 rfl ?_
    refine wt_icmp_lt hE 101 wp_tp_takeNumber_d93 rfl (fun c4 => ?_) (fun c4 => ?_)
    · have h := wt_ip c4 h
      refine wt_wk [true, false, false, false] rfl ?_
      exact wp_tp_takeNumber_B101_ok hE hR hD h
    · have h := wt_in c4 h
      refine wt_iload_n hE wp_tp_takeNumber_d96 rfl ?_
      refine wt_iload_n hE wp_tp_takeNumber_d97 rfl ?_
      refine wt_icmp_le hE 109 wp_tp_takeNumber_d98 rfl (fun c6 => ?_) (fun c6 => ?_)
      · have h := wt_ip c6 h
        refine wt_iload_n hE wp_tp_takeNumber_d109 rfl ?_
        cases h
        exact wt_iret hE hR wp_tp_takeNumber_d110
      · have h := wt_in c6 h
        refine wt_wk [true, false, false, false] rfl ?_
        exact wp_tp_takeNumber_B101_ok hE hR hD h
  · have h := wt_ip c3 h
    refine wt_aload_n hE wp_tp_takeNumber_d83 rfl ?_
    refine wt_iconst hE (1 : Int32) wp_tp_takeNumber_d84 wt_ci_1 ?_
    obtain ⟨q7, hq7, h⟩ := wt_bi h
    refine wt_callVi hE [.int (1 : Int32)] wt_lm_tp_52 wt_ya_tp_fail (wp_tp_fail_ok hD hq7) (by omega) (hD 1 (Nat.le_of_ble_eq_true rfl)) wt_L1 rfl rfl rfl (Nat.le_of_ble_eq_true rfl) (Nat.zero_le _) wp_tp_takeNumber_d85 (fun hbq7 => ?_)
    refine wt_pop hE wp_tp_takeNumber_d88 rfl ?_
    refine wt_iconst hE (-1 : Int32) wp_tp_takeNumber_d89 wt_ci_m1 ?_
    cases h
    exact wt_iret hE hR wp_tp_takeNumber_d90
noncomputable def wp_tp_takeNumber_B6 (n : Nat) (x1 : Int32) (x2 : Int32) (K6 : Int32 × wt_St → Option (Int32 × wt_St)) (s : Int32 × wt_St) : Option (Int32 × wt_St) :=
  if (wt_gf s.2 1 3) ≤ (wt_gf s.2 1 4) then
    wp_tp_takeNumber_B72 n x1 x2 s.1 s.2
  else
    (wp_ap_look n 2 (wt_gf s.2 1 4) s.2).bind fun q8 =>
    (wp_tp_isDigit n q8.1 q8.2).bind fun q9 =>
    if q9.1 = 0 then
      wp_tp_takeNumber_B72 n x1 x2 s.1 q9.2
    else
      (wp_ap_look n 2 (wt_gf q9.2 1 4) q9.2).bind fun q11 =>
      K6 ((if (1000000 : Int32) < (((s.1 * (10 : Int32)) + q11.1) - (48 : Int32)) then (1000000 : Int32) else (((s.1 * (10 : Int32)) + q11.1) - (48 : Int32))), (wt_sf q11.2 1 4 ((wt_gf q11.2 1 4) + (1 : Int32))))
set_option maxRecDepth 100000 in
set_option maxHeartbeats 4000000 in
theorem wp_tp_takeNumber_B6_ok  {x1 : Int32} {x2 : Int32} {X : wt_X} {n : Nat} {res : Int32 × wt_St} (hE : wt_Ok X prog_7_method_9_code 4 "WornType$Tape" 2 0) (hR : wt_Rt X (some .int) (some res.1) res.2) (hD : ∀ i, i < 108 → wt_dom (wt_xw X) i)  {K6 : Int32 × wt_St → Option (Int32 × wt_St)} (hK6 : ∀ s : Int32 × wt_St, K6 s = some res → wt_V X 0 s.2 6 [some (.ref (wt_ad (wt_xw X) 1)), some (.int x1), some (.int x2), some (.int s.1)] []) {s : Int32 × wt_St} (h : wp_tp_takeNumber_B6 n x1 x2 K6 s = some res) : wt_V X 0 s.2 6 [some (.ref (wt_ad (wt_xw X) 1)), some (.int x1), some (.int x2), some (.int s.1)] [] := by
  unfold wp_tp_takeNumber_B6 at h
  refine wt_aload_n hE wp_tp_takeNumber_d6 rfl ?_
  refine wt_geti hE wt_lf_tp_32 (hD 1 (Nat.le_of_ble_eq_true rfl)) wt_L1 rfl wp_tp_takeNumber_d7 ?_
  refine wt_aload_n hE wp_tp_takeNumber_d10 rfl ?_
  refine wt_geti hE wt_lf_tp_29 (hD 1 (Nat.le_of_ble_eq_true rfl)) wt_L1 rfl wp_tp_takeNumber_d11 ?_
  refine wt_icmp_ge hE 72 wp_tp_takeNumber_d14 rfl (fun c2 => ?_) (fun c2 => ?_)
  · have h := wt_ip c2 h
    exact wp_tp_takeNumber_B72_ok hE hR hD h
  · have h := wt_in c2 h
    refine wt_aload_n hE wp_tp_takeNumber_d17 rfl ?_
    refine wt_getr hE (r := 2) wt_lf_tp_9 (hD 1 (Nat.le_of_ble_eq_true rfl)) wt_L1 rfl wp_tp_takeNumber_d18 ?_
    refine wt_aload_n hE wp_tp_takeNumber_d21 rfl ?_
    refine wt_geti hE wt_lf_tp_32 (hD 1 (Nat.le_of_ble_eq_true rfl)) wt_L1 rfl wp_tp_takeNumber_d22 ?_
    obtain ⟨q8, hq8, h⟩ := wt_bi h
    refine wt_callSi hE [.ref (wt_ad (wt_xw X) 2), .int (wt_gf s.2 1 4)] wt_lm_tp_44 wt_ya_ap_look (wp_ap_look_ok (wt_lnE wt_L2) (hD 2 (Nat.le_of_ble_eq_true rfl)) hq8) (by omega) rfl rfl (Nat.le_of_ble_eq_true rfl) (Nat.zero_le _) wp_tp_takeNumber_d25 (fun hbq8 => ?_)
    obtain ⟨q9, hq9, h⟩ := wt_bi h
    refine wt_callSi hE [.int q8.1] wt_lm_tp_72 wt_ya_tp_isDigit (wp_tp_isDigit_ok hq9) (by omega) rfl rfl (Nat.le_of_ble_eq_true rfl) (Nat.zero_le _) wp_tp_takeNumber_d28 (fun hbq9 => ?_)
    refine wt_if_eq hE 72 wp_tp_takeNumber_d31 rfl (fun c10 => ?_) (fun c10 => ?_)
    · have h := wt_ip c10 h
      exact wp_tp_takeNumber_B72_ok hE hR hD h
    · have h := wt_in c10 h
      refine wt_iload_n hE wp_tp_takeNumber_d34 rfl ?_
      refine wt_bipush hE (10 : Int32) wp_tp_takeNumber_d35 wt_cb_10 ?_
      refine wt_imul hE wp_tp_takeNumber_d37 ?_
      refine wt_aload_n hE wp_tp_takeNumber_d38 rfl ?_
      refine wt_getr hE (r := 2) wt_lf_tp_9 (hD 1 (Nat.le_of_ble_eq_true rfl)) wt_L1 rfl wp_tp_takeNumber_d39 ?_
      refine wt_aload_n hE wp_tp_takeNumber_d42 rfl ?_
      refine wt_geti hE wt_lf_tp_32 (hD 1 (Nat.le_of_ble_eq_true rfl)) wt_L1 rfl wp_tp_takeNumber_d43 ?_
      obtain ⟨q11, hq11, h⟩ := wt_bi h
      refine wt_callSi hE [.ref (wt_ad (wt_xw X) 2), .int (wt_gf q9.2 1 4)] wt_lm_tp_44 wt_ya_ap_look (wp_ap_look_ok (wt_lnE wt_L2) (hD 2 (Nat.le_of_ble_eq_true rfl)) hq11) (by omega) rfl rfl (Nat.le_of_ble_eq_true rfl) (Nat.zero_le _) wp_tp_takeNumber_d46 (fun hbq11 => ?_)
      refine wt_iadd hE wp_tp_takeNumber_d49 ?_
      refine wt_bipush hE (48 : Int32) wp_tp_takeNumber_d50 wt_cb_48 ?_
      refine wt_isub hE wp_tp_takeNumber_d52 ?_
      refine wt_ldc hE (1000000 : Int32) wt_lc_tp_75 wp_tp_takeNumber_d53 ?_
      refine wt_min hE wt_lm_tp_76 wt_ms_min wt_mi wt_mc_min (by omega) (Nat.zero_le _) (Nat.le_of_ble_eq_true rfl) wp_tp_takeNumber_d55 ?_
      refine wt_istore_n hE [some (.ref (wt_ad (wt_xw X) 1)), some (.int x1), some (.int x2), some (.int (if (1000000 : Int32) < (((s.1 * (10 : Int32)) + q11.1) - (48 : Int32)) then (1000000 : Int32) else (((s.1 * (10 : Int32)) + q11.1) - (48 : Int32))))] wp_tp_takeNumber_d58 (by decide) rfl ?_
      refine wt_aload_n hE wp_tp_takeNumber_d59 rfl ?_
      refine wt_dup hE wp_tp_takeNumber_d60 rfl ?_
      refine wt_geti hE wt_lf_tp_32 (hD 1 (Nat.le_of_ble_eq_true rfl)) wt_L1 rfl wp_tp_takeNumber_d61 ?_
      refine wt_iconst hE (1 : Int32) wp_tp_takeNumber_d64 wt_ci_1 ?_
      refine wt_iadd hE wp_tp_takeNumber_d65 ?_
      refine wt_puti hE wt_lf_tp_32 (hD 1 (Nat.le_of_ble_eq_true rfl)) wt_L1 rfl (fun q hq => by cases hq; rfl) wp_tp_takeNumber_d66 ?_
      refine wt_goto hE 6 wp_tp_takeNumber_d69 rfl ?_
      exact hK6 ((if (1000000 : Int32) < (((s.1 * (10 : Int32)) + q11.1) - (48 : Int32)) then (1000000 : Int32) else (((s.1 * (10 : Int32)) + q11.1) - (48 : Int32))), (wt_sf q11.2 1 4 ((wt_gf q11.2 1 4) + (1 : Int32)))) h
noncomputable def wp_tp_takeNumber (n : Nat) (x1 : Int32) (x2 : Int32) (σ : wt_St) : Option (Int32 × wt_St) :=
  (wp_tp_skipBlanks n σ).bind fun q1 =>
  wt_it (wp_tp_takeNumber_B6 n x1 x2) n ((0 : Int32), q1)
set_option maxRecDepth 100000 in
set_option maxHeartbeats 4000000 in
theorem wp_tp_takeNumber_ok {l : Launch} {w : wt_E} {n : Nat} {x1 : Int32} {x2 : Int32} (hD : ∀ i, i < 108 → wt_dom w i) {σ : wt_St} {q : Int32 × wt_St} (h : wp_tp_takeNumber n x1 x2 σ = some q) : wt_Ctr l w wt_y_tp_takeNumber prog_7_method_9_code 4 (some .int) 2 [.ref (wt_ad w 1), .int x1, .int x2] σ (some q.1) q.2 := by
  refine wt_ctr wt_pl_tp_takeNumber rfl (Nat.le_of_ble_eq_true rfl) [some (.ref (wt_ad w 1)), some (.int x1), some (.int x2), none] rfl ?_
  intro X hXl hXw hE hR
  subst hXl
  subst hXw
  have hE : wt_Ok X prog_7_method_9_code 4 "WornType$Tape" 2 0 := hE
  unfold wp_tp_takeNumber at h
  refine wt_aload_n hE wp_tp_takeNumber_d0 rfl ?_
  obtain ⟨q1, hq1, h⟩ := wt_bi h
  refine wt_callVv hE [] wt_lm_tp_41 wt_ya_tp_skipBlanks (wp_tp_skipBlanks_ok hD hq1) (by omega) (hD 1 (Nat.le_of_ble_eq_true rfl)) wt_L1 rfl rfl rfl (Nat.le_of_ble_eq_true rfl) (Nat.zero_le _) wp_tp_takeNumber_d1 ?_
  refine wt_iconst hE (0 : Int32) wp_tp_takeNumber_d4 wt_ci_0 ?_
  refine wt_istore_n hE [some (.ref (wt_ad (wt_xw X) 1)), some (.int x1), some (.int x2), some (.int (0 : Int32))] wp_tp_takeNumber_d5 (by decide) rfl ?_
  exact wt_it_ind (fun z => wt_V X 0 z.2 6 [some (.ref (wt_ad (wt_xw X) 1)), some (.int x1), some (.int x2), some (.int z.1)] []) (fun K hK z h => wp_tp_takeNumber_B6_ok hE hR hD hK h) n ((0 : Int32), q1) h
def wb12m2_prog_2_method_11_code_r0 : List (List Nat) := [43, 3, 16, 99, 182, 0, 117, 61, 28, 2, 160, 0, 5, 3, 172, 42, 28, 181, 0, 40, 4, 172] :: []
set_option maxRecDepth 100000 in
theorem wb12m2_prog_2_method_11_code_c0 : wt_cs prog_2_method_11_code 0 wb12m2_prog_2_method_11_code_r0 := wt_cs_of (by decide +kernel)
theorem wp_ld_fillFaint_d0 : decode prog_2_method_11_code 0 = .ok (.aload_n 1, 1) := wt_op43 wb12m2_prog_2_method_11_code_c0 0 rfl rfl
theorem wp_ld_fillFaint_d1 : decode prog_2_method_11_code 1 = .ok (.iconst 0, 1) := wt_op3 wb12m2_prog_2_method_11_code_c0 1 rfl rfl
theorem wp_ld_fillFaint_d2 : decode prog_2_method_11_code 2 = .ok (.bipush 99, 2) := wt_op16 wb12m2_prog_2_method_11_code_c0 2 rfl rfl rfl
theorem wp_ld_fillFaint_d4 : decode prog_2_method_11_code 4 = .ok (.invokevirtual 117, 3) := wt_op182 wb12m2_prog_2_method_11_code_c0 4 rfl rfl rfl
theorem wp_ld_fillFaint_d7 : decode prog_2_method_11_code 7 = .ok (.istore_n 2, 1) := wt_op61 wb12m2_prog_2_method_11_code_c0 7 rfl rfl
theorem wp_ld_fillFaint_d8 : decode prog_2_method_11_code 8 = .ok (.iload_n 2, 1) := wt_op28 wb12m2_prog_2_method_11_code_c0 8 rfl rfl
theorem wp_ld_fillFaint_d9 : decode prog_2_method_11_code 9 = .ok (.iconst (-1), 1) := wt_op2 wb12m2_prog_2_method_11_code_c0 9 rfl rfl
theorem wp_ld_fillFaint_d10 : decode prog_2_method_11_code 10 = .ok (.if_icmp .ne 5, 3) := wt_op160 wb12m2_prog_2_method_11_code_c0 10 rfl rfl rfl
theorem wp_ld_fillFaint_d13 : decode prog_2_method_11_code 13 = .ok (.iconst 0, 1) := wt_op3 wb12m2_prog_2_method_11_code_c0 13 rfl rfl
theorem wp_ld_fillFaint_d14 : decode prog_2_method_11_code 14 = .ok (.ireturn, 1) := wt_op172 wb12m2_prog_2_method_11_code_c0 14 rfl rfl
theorem wp_ld_fillFaint_d15 : decode prog_2_method_11_code 15 = .ok (.aload_n 0, 1) := wt_op42 wb12m2_prog_2_method_11_code_c0 15 rfl rfl
theorem wp_ld_fillFaint_d16 : decode prog_2_method_11_code 16 = .ok (.iload_n 2, 1) := wt_op28 wb12m2_prog_2_method_11_code_c0 16 rfl rfl
theorem wp_ld_fillFaint_d17 : decode prog_2_method_11_code 17 = .ok (.putfield 40, 3) := wt_op181 wb12m2_prog_2_method_11_code_c0 17 rfl rfl rfl
theorem wp_ld_fillFaint_d20 : decode prog_2_method_11_code 20 = .ok (.iconst 1, 1) := wt_op4 wb12m2_prog_2_method_11_code_c0 20 rfl rfl
theorem wp_ld_fillFaint_d21 : decode prog_2_method_11_code 21 = .ok (.ireturn, 1) := wt_op172 wb12m2_prog_2_method_11_code_c0 21 rfl rfl
noncomputable def wp_ld_fillFaint (n : Nat) (t0 : Nat) (σ : wt_St) : Option (Int32 × wt_St) :=
  (wp_tp_takeNumber n (0 : Int32) (99 : Int32) σ).bind fun q1 =>
  if q1.1 = (-1 : Int32) then
    some ((0 : Int32), q1.2)
  else
    some ((1 : Int32), (wt_sf q1.2 t0 7 q1.1))
set_option maxRecDepth 100000 in
set_option maxHeartbeats 4000000 in
theorem wp_ld_fillFaint_ok {l : Launch} {w : wt_E} {n : Nat} {t0 : Nat} (hD : ∀ i, i < 108 → wt_dom w i) (hI_t0 : wt_isLead t0) (hT_t0 : ∀ j, j < 8 → wt_dom w (t0 + j)) {σ : wt_St} {q : Int32 × wt_St} (h : wp_ld_fillFaint n t0 σ = some q) : wt_Ctr l w wt_y_ld_fillFaint prog_2_method_11_code 3 (some .boolean) 3 [.ref (wt_ad w t0), .ref (wt_ad w 1)] σ (some q.1) q.2 := by
  refine wt_ctr wt_pl_ld_fillFaint rfl (Nat.le_of_ble_eq_true rfl) [some (.ref (wt_ad w t0)), some (.ref (wt_ad w 1)), none] rfl ?_
  intro X hXl hXw hE hR
  subst hXl
  subst hXw
  have hE : wt_Ok X prog_2_method_11_code 3 "WornType$Lead" 3 0 := hE
  unfold wp_ld_fillFaint at h
  refine wt_aload_n hE wp_ld_fillFaint_d0 rfl ?_
  refine wt_iconst hE (0 : Int32) wp_ld_fillFaint_d1 wt_ci_0 ?_
  refine wt_bipush hE (99 : Int32) wp_ld_fillFaint_d2 wt_cb_99 ?_
  obtain ⟨q1, hq1, h⟩ := wt_bi h
  refine wt_callVi hE [.int (0 : Int32), .int (99 : Int32)] wt_lm_ld_117 wt_ya_tp_takeNumber (wp_tp_takeNumber_ok hD hq1) (by omega) (hD 1 (Nat.le_of_ble_eq_true rfl)) wt_L1 rfl rfl rfl (Nat.le_of_ble_eq_true rfl) (Nat.zero_le _) wp_ld_fillFaint_d4 (fun hbq1 => ?_)
  refine wt_istore_n hE [some (.ref (wt_ad (wt_xw X) t0)), some (.ref (wt_ad (wt_xw X) 1)), some (.int q1.1)] wp_ld_fillFaint_d7 (by decide) rfl ?_
  refine wt_iload_n hE wp_ld_fillFaint_d8 rfl ?_
  refine wt_iconst hE (-1 : Int32) wp_ld_fillFaint_d9 wt_ci_m1 ?_
  refine wt_icmp_ne hE 15 wp_ld_fillFaint_d10 rfl (fun c2 => ?_) (fun c2 => ?_)
  · have h := wt_in c2 h
    refine wt_aload_n hE wp_ld_fillFaint_d15 rfl ?_
    refine wt_iload_n hE wp_ld_fillFaint_d16 rfl ?_
    refine wt_puti hE wt_lf_ld_40 (hT_t0 0 (Nat.le_of_ble_eq_true rfl)) (hI_t0.1) rfl (fun q hq => by cases hq; rfl) wp_ld_fillFaint_d17 ?_
    refine wt_iconst hE (1 : Int32) wp_ld_fillFaint_d20 wt_ci_1 ?_
    cases h
    exact wt_zret hE (by decide) hR wp_ld_fillFaint_d21
  · have h := wt_ip c2 h
    refine wt_iconst hE (0 : Int32) wp_ld_fillFaint_d13 wt_ci_0 ?_
    cases h
    exact wt_zret hE (by decide) hR wp_ld_fillFaint_d14
def wb12m2_prog_2_method_13_code_r1 : List (List Nat) := [42, 180, 0, 30, 28, 42, 180, 0, 30, 28, 184, 0, 44, 4, 29, 120, 128, 184, 0, 120, 4, 172] :: []
def wb12m2_prog_2_method_13_code_r0 : List (List Nat) := [43, 3, 6, 182, 0, 117, 61, 28, 2, 160, 0, 5, 3, 172, 43, 3, 6, 182, 0, 117, 62, 29, 2, 160, 0, 5, 3, 172] :: wb12m2_prog_2_method_13_code_r1
set_option maxRecDepth 100000 in
theorem wb12m2_prog_2_method_13_code_c0 : wt_cs prog_2_method_13_code 0 wb12m2_prog_2_method_13_code_r0 := wt_cs_of (by decide +kernel)
theorem wb12m2_prog_2_method_13_code_c1 : wt_cs prog_2_method_13_code 28 wb12m2_prog_2_method_13_code_r1 := wt_cs_tl (m := 28) wb12m2_prog_2_method_13_code_c0 rfl rfl
theorem wp_ld_fillFollow_d0 : decode prog_2_method_13_code 0 = .ok (.aload_n 1, 1) := wt_op43 wb12m2_prog_2_method_13_code_c0 0 rfl rfl
theorem wp_ld_fillFollow_d1 : decode prog_2_method_13_code 1 = .ok (.iconst 0, 1) := wt_op3 wb12m2_prog_2_method_13_code_c0 1 rfl rfl
theorem wp_ld_fillFollow_d2 : decode prog_2_method_13_code 2 = .ok (.iconst 3, 1) := wt_op6 wb12m2_prog_2_method_13_code_c0 2 rfl rfl
theorem wp_ld_fillFollow_d3 : decode prog_2_method_13_code 3 = .ok (.invokevirtual 117, 3) := wt_op182 wb12m2_prog_2_method_13_code_c0 3 rfl rfl rfl
theorem wp_ld_fillFollow_d6 : decode prog_2_method_13_code 6 = .ok (.istore_n 2, 1) := wt_op61 wb12m2_prog_2_method_13_code_c0 6 rfl rfl
theorem wp_ld_fillFollow_d7 : decode prog_2_method_13_code 7 = .ok (.iload_n 2, 1) := wt_op28 wb12m2_prog_2_method_13_code_c0 7 rfl rfl
theorem wp_ld_fillFollow_d8 : decode prog_2_method_13_code 8 = .ok (.iconst (-1), 1) := wt_op2 wb12m2_prog_2_method_13_code_c0 8 rfl rfl
theorem wp_ld_fillFollow_d9 : decode prog_2_method_13_code 9 = .ok (.if_icmp .ne 5, 3) := wt_op160 wb12m2_prog_2_method_13_code_c0 9 rfl rfl rfl
theorem wp_ld_fillFollow_d12 : decode prog_2_method_13_code 12 = .ok (.iconst 0, 1) := wt_op3 wb12m2_prog_2_method_13_code_c0 12 rfl rfl
theorem wp_ld_fillFollow_d13 : decode prog_2_method_13_code 13 = .ok (.ireturn, 1) := wt_op172 wb12m2_prog_2_method_13_code_c0 13 rfl rfl
theorem wp_ld_fillFollow_d14 : decode prog_2_method_13_code 14 = .ok (.aload_n 1, 1) := wt_op43 wb12m2_prog_2_method_13_code_c0 14 rfl rfl
theorem wp_ld_fillFollow_d15 : decode prog_2_method_13_code 15 = .ok (.iconst 0, 1) := wt_op3 wb12m2_prog_2_method_13_code_c0 15 rfl rfl
theorem wp_ld_fillFollow_d16 : decode prog_2_method_13_code 16 = .ok (.iconst 3, 1) := wt_op6 wb12m2_prog_2_method_13_code_c0 16 rfl rfl
theorem wp_ld_fillFollow_d17 : decode prog_2_method_13_code 17 = .ok (.invokevirtual 117, 3) := wt_op182 wb12m2_prog_2_method_13_code_c0 17 rfl rfl rfl
theorem wp_ld_fillFollow_d20 : decode prog_2_method_13_code 20 = .ok (.istore_n 3, 1) := wt_op62 wb12m2_prog_2_method_13_code_c0 20 rfl rfl
theorem wp_ld_fillFollow_d21 : decode prog_2_method_13_code 21 = .ok (.iload_n 3, 1) := wt_op29 wb12m2_prog_2_method_13_code_c0 21 rfl rfl
theorem wp_ld_fillFollow_d22 : decode prog_2_method_13_code 22 = .ok (.iconst (-1), 1) := wt_op2 wb12m2_prog_2_method_13_code_c0 22 rfl rfl
theorem wp_ld_fillFollow_d23 : decode prog_2_method_13_code 23 = .ok (.if_icmp .ne 5, 3) := wt_op160 wb12m2_prog_2_method_13_code_c0 23 rfl rfl rfl
theorem wp_ld_fillFollow_d26 : decode prog_2_method_13_code 26 = .ok (.iconst 0, 1) := wt_op3 wb12m2_prog_2_method_13_code_c0 26 rfl rfl
theorem wp_ld_fillFollow_d27 : decode prog_2_method_13_code 27 = .ok (.ireturn, 1) := wt_op172 wb12m2_prog_2_method_13_code_c0 27 rfl rfl
theorem wp_ld_fillFollow_d28 : decode prog_2_method_13_code 28 = .ok (.aload_n 0, 1) := wt_op42 wb12m2_prog_2_method_13_code_c1 0 rfl rfl
theorem wp_ld_fillFollow_d29 : decode prog_2_method_13_code 29 = .ok (.getfield 30, 3) := wt_op180 wb12m2_prog_2_method_13_code_c1 1 rfl rfl rfl
theorem wp_ld_fillFollow_d32 : decode prog_2_method_13_code 32 = .ok (.iload_n 2, 1) := wt_op28 wb12m2_prog_2_method_13_code_c1 4 rfl rfl
theorem wp_ld_fillFollow_d33 : decode prog_2_method_13_code 33 = .ok (.aload_n 0, 1) := wt_op42 wb12m2_prog_2_method_13_code_c1 5 rfl rfl
theorem wp_ld_fillFollow_d34 : decode prog_2_method_13_code 34 = .ok (.getfield 30, 3) := wt_op180 wb12m2_prog_2_method_13_code_c1 6 rfl rfl rfl
theorem wp_ld_fillFollow_d37 : decode prog_2_method_13_code 37 = .ok (.iload_n 2, 1) := wt_op28 wb12m2_prog_2_method_13_code_c1 9 rfl rfl
theorem wp_ld_fillFollow_d38 : decode prog_2_method_13_code 38 = .ok (.invokestatic 44, 3) := wt_op184 wb12m2_prog_2_method_13_code_c1 10 rfl rfl rfl
theorem wp_ld_fillFollow_d41 : decode prog_2_method_13_code 41 = .ok (.iconst 1, 1) := wt_op4 wb12m2_prog_2_method_13_code_c1 13 rfl rfl
theorem wp_ld_fillFollow_d42 : decode prog_2_method_13_code 42 = .ok (.iload_n 3, 1) := wt_op29 wb12m2_prog_2_method_13_code_c1 14 rfl rfl
theorem wp_ld_fillFollow_d43 : decode prog_2_method_13_code 43 = .ok (.ishl, 1) := wt_op120 wb12m2_prog_2_method_13_code_c1 15 rfl rfl
theorem wp_ld_fillFollow_d44 : decode prog_2_method_13_code 44 = .ok (.ior, 1) := wt_op128 wb12m2_prog_2_method_13_code_c1 16 rfl rfl
theorem wp_ld_fillFollow_d45 : decode prog_2_method_13_code 45 = .ok (.invokestatic 120, 3) := wt_op184 wb12m2_prog_2_method_13_code_c1 17 rfl rfl rfl
theorem wp_ld_fillFollow_d48 : decode prog_2_method_13_code 48 = .ok (.iconst 1, 1) := wt_op4 wb12m2_prog_2_method_13_code_c1 20 rfl rfl
theorem wp_ld_fillFollow_d49 : decode prog_2_method_13_code 49 = .ok (.ireturn, 1) := wt_op172 wb12m2_prog_2_method_13_code_c1 21 rfl rfl
noncomputable def wp_ld_fillFollow (n : Nat) (t0 : Nat) (σ : wt_St) : Option (Int32 × wt_St) :=
  (wp_tp_takeNumber n (0 : Int32) (3 : Int32) σ).bind fun q1 =>
  if q1.1 = (-1 : Int32) then
    some ((0 : Int32), q1.2)
  else
    (wp_tp_takeNumber n (0 : Int32) (3 : Int32) q1.2).bind fun q3 =>
    if q3.1 = (-1 : Int32) then
      some ((0 : Int32), q3.2)
    else
      (wp_ap_look n (t0 + 7) q1.1 q3.2).bind fun q5 =>
      (wp_ap_put n (t0 + 7) q1.1 (q5.1 ||| ((1 : Int32) <<< (q3.1 &&& 31))) q5.2).bind fun q6 =>
      some ((1 : Int32), q6)
set_option maxRecDepth 100000 in
set_option maxHeartbeats 4000000 in
theorem wp_ld_fillFollow_ok {l : Launch} {w : wt_E} {n : Nat} {t0 : Nat} (hD : ∀ i, i < 108 → wt_dom w i) (hI_t0 : wt_isLead t0) (hT_t0 : ∀ j, j < 8 → wt_dom w (t0 + j)) {σ : wt_St} {q : Int32 × wt_St} (h : wp_ld_fillFollow n t0 σ = some q) : wt_Ctr l w wt_y_ld_fillFollow prog_2_method_13_code 4 (some .boolean) 3 [.ref (wt_ad w t0), .ref (wt_ad w 1)] σ (some q.1) q.2 := by
  refine wt_ctr wt_pl_ld_fillFollow rfl (Nat.le_of_ble_eq_true rfl) [some (.ref (wt_ad w t0)), some (.ref (wt_ad w 1)), none, none] rfl ?_
  intro X hXl hXw hE hR
  subst hXl
  subst hXw
  have hE : wt_Ok X prog_2_method_13_code 4 "WornType$Lead" 3 0 := hE
  unfold wp_ld_fillFollow at h
  refine wt_aload_n hE wp_ld_fillFollow_d0 rfl ?_
  refine wt_iconst hE (0 : Int32) wp_ld_fillFollow_d1 wt_ci_0 ?_
  refine wt_iconst hE (3 : Int32) wp_ld_fillFollow_d2 wt_ci_3 ?_
  obtain ⟨q1, hq1, h⟩ := wt_bi h
  refine wt_callVi hE [.int (0 : Int32), .int (3 : Int32)] wt_lm_ld_117 wt_ya_tp_takeNumber (wp_tp_takeNumber_ok hD hq1) (by omega) (hD 1 (Nat.le_of_ble_eq_true rfl)) wt_L1 rfl rfl rfl (Nat.le_of_ble_eq_true rfl) (Nat.zero_le _) wp_ld_fillFollow_d3 (fun hbq1 => ?_)
  refine wt_istore_n hE [some (.ref (wt_ad (wt_xw X) t0)), some (.ref (wt_ad (wt_xw X) 1)), some (.int q1.1), none] wp_ld_fillFollow_d6 (by decide) rfl ?_
  refine wt_iload_n hE wp_ld_fillFollow_d7 rfl ?_
  refine wt_iconst hE (-1 : Int32) wp_ld_fillFollow_d8 wt_ci_m1 ?_
  refine wt_icmp_ne hE 14 wp_ld_fillFollow_d9 rfl (fun c2 => ?_) (fun c2 => ?_)
  · have h := wt_in c2 h
    refine wt_aload_n hE wp_ld_fillFollow_d14 rfl ?_
    refine wt_iconst hE (0 : Int32) wp_ld_fillFollow_d15 wt_ci_0 ?_
    refine wt_iconst hE (3 : Int32) wp_ld_fillFollow_d16 wt_ci_3 ?_
    obtain ⟨q3, hq3, h⟩ := wt_bi h
    refine wt_callVi hE [.int (0 : Int32), .int (3 : Int32)] wt_lm_ld_117 wt_ya_tp_takeNumber (wp_tp_takeNumber_ok hD hq3) (by omega) (hD 1 (Nat.le_of_ble_eq_true rfl)) wt_L1 rfl rfl rfl (Nat.le_of_ble_eq_true rfl) (Nat.zero_le _) wp_ld_fillFollow_d17 (fun hbq3 => ?_)
    refine wt_istore_n hE [some (.ref (wt_ad (wt_xw X) t0)), some (.ref (wt_ad (wt_xw X) 1)), some (.int q1.1), some (.int q3.1)] wp_ld_fillFollow_d20 (by decide) rfl ?_
    refine wt_iload_n hE wp_ld_fillFollow_d21 rfl ?_
    refine wt_iconst hE (-1 : Int32) wp_ld_fillFollow_d22 wt_ci_m1 ?_
    refine wt_icmp_ne hE 28 wp_ld_fillFollow_d23 rfl (fun c4 => ?_) (fun c4 => ?_)
    · have h := wt_in c4 h
      refine wt_aload_n hE wp_ld_fillFollow_d28 rfl ?_
      refine wt_getr hE (r := (t0 + 7)) wt_lf_ld_30 (hT_t0 0 (Nat.le_of_ble_eq_true rfl)) (hI_t0.1) rfl wp_ld_fillFollow_d29 ?_
      refine wt_iload_n hE wp_ld_fillFollow_d32 rfl ?_
      refine wt_aload_n hE wp_ld_fillFollow_d33 rfl ?_
      refine wt_getr hE (r := (t0 + 7)) wt_lf_ld_30 (hT_t0 0 (Nat.le_of_ble_eq_true rfl)) (hI_t0.1) rfl wp_ld_fillFollow_d34 ?_
      refine wt_iload_n hE wp_ld_fillFollow_d37 rfl ?_
      obtain ⟨q5, hq5, h⟩ := wt_bi h
      refine wt_callSi hE [.ref (wt_ad (wt_xw X) ((t0 + 7))), .int q1.1] wt_lm_ld_44 wt_ya_ap_look (wp_ap_look_ok (wt_lnE (wt_isLead_L7 hI_t0)) (hT_t0 7 (Nat.le_of_ble_eq_true rfl)) hq5) (by omega) rfl rfl (Nat.le_of_ble_eq_true rfl) (Nat.zero_le _) wp_ld_fillFollow_d38 (fun hbq5 => ?_)
      refine wt_iconst hE (1 : Int32) wp_ld_fillFollow_d41 wt_ci_1 ?_
      refine wt_iload_n hE wp_ld_fillFollow_d42 rfl ?_
      refine wt_ishl hE wp_ld_fillFollow_d43 ?_
      refine wt_ior hE wp_ld_fillFollow_d44 ?_
      obtain ⟨q6, hq6, h⟩ := wt_bi h
      refine wt_callSv hE [.ref (wt_ad (wt_xw X) ((t0 + 7))), .int q1.1, .int (q5.1 ||| ((1 : Int32) <<< (q3.1 &&& 31)))] wt_lm_ld_120 wt_ya_ap_put (wp_ap_put_ok (wt_lnE (wt_isLead_L7 hI_t0)) (hT_t0 7 (Nat.le_of_ble_eq_true rfl)) hq6) (by omega) rfl rfl (Nat.le_of_ble_eq_true rfl) (Nat.zero_le _) wp_ld_fillFollow_d45 ?_
      refine wt_iconst hE (1 : Int32) wp_ld_fillFollow_d48 wt_ci_1 ?_
      cases h
      exact wt_zret hE (by decide) hR wp_ld_fillFollow_d49
    · have h := wt_ip c4 h
      refine wt_iconst hE (0 : Int32) wp_ld_fillFollow_d26 wt_ci_0 ?_
      cases h
      exact wt_zret hE (by decide) hR wp_ld_fillFollow_d27
  · have h := wt_ip c2 h
    refine wt_iconst hE (0 : Int32) wp_ld_fillFollow_d12 wt_ci_0 ?_
    cases h
    exact wt_zret hE (by decide) hR wp_ld_fillFollow_d13
def wb12m2_prog_7_method_14_code_r0 : List (List Nat) := [26, 16, 97, 161, 0, 13, 26, 16, 122, 163, 0, 7, 4, 167, 0, 4, 3, 172] :: []
set_option maxRecDepth 100000 in
theorem wb12m2_prog_7_method_14_code_c0 : wt_cs prog_7_method_14_code 0 wb12m2_prog_7_method_14_code_r0 := wt_cs_of (by decide +kernel)
theorem wp_tp_isSmall_d0 : decode prog_7_method_14_code 0 = .ok (.iload_n 0, 1) := wt_op26 wb12m2_prog_7_method_14_code_c0 0 rfl rfl
theorem wp_tp_isSmall_d1 : decode prog_7_method_14_code 1 = .ok (.bipush 97, 2) := wt_op16 wb12m2_prog_7_method_14_code_c0 1 rfl rfl rfl
theorem wp_tp_isSmall_d3 : decode prog_7_method_14_code 3 = .ok (.if_icmp .lt 13, 3) := wt_op161 wb12m2_prog_7_method_14_code_c0 3 rfl rfl rfl
theorem wp_tp_isSmall_d6 : decode prog_7_method_14_code 6 = .ok (.iload_n 0, 1) := wt_op26 wb12m2_prog_7_method_14_code_c0 6 rfl rfl
theorem wp_tp_isSmall_d7 : decode prog_7_method_14_code 7 = .ok (.bipush 122, 2) := wt_op16 wb12m2_prog_7_method_14_code_c0 7 rfl rfl rfl
theorem wp_tp_isSmall_d9 : decode prog_7_method_14_code 9 = .ok (.if_icmp .gt 7, 3) := wt_op163 wb12m2_prog_7_method_14_code_c0 9 rfl rfl rfl
theorem wp_tp_isSmall_d12 : decode prog_7_method_14_code 12 = .ok (.iconst 1, 1) := wt_op4 wb12m2_prog_7_method_14_code_c0 12 rfl rfl
theorem wp_tp_isSmall_d13 : decode prog_7_method_14_code 13 = .ok (.goto 4, 3) := wt_op167 wb12m2_prog_7_method_14_code_c0 13 rfl rfl rfl
theorem wp_tp_isSmall_d16 : decode prog_7_method_14_code 16 = .ok (.iconst 0, 1) := wt_op3 wb12m2_prog_7_method_14_code_c0 16 rfl rfl
theorem wp_tp_isSmall_d17 : decode prog_7_method_14_code 17 = .ok (.ireturn, 1) := wt_op172 wb12m2_prog_7_method_14_code_c0 17 rfl rfl
noncomputable def wp_tp_isSmall (n : Nat) (x0 : Int32) (σ : wt_St) : Option (Int32 × wt_St) :=
  if x0 < (97 : Int32) then
    some ((0 : Int32), σ)
  else
    if (122 : Int32) < x0 then
      some ((0 : Int32), σ)
    else
      some ((1 : Int32), σ)
set_option maxRecDepth 100000 in
set_option maxHeartbeats 4000000 in
theorem wp_tp_isSmall_ok {l : Launch} {w : wt_E} {n : Nat} {x0 : Int32} {σ : wt_St} {q : Int32 × wt_St} (h : wp_tp_isSmall n x0 σ = some q) : wt_Ctr l w wt_y_tp_isSmall prog_7_method_14_code 1 (some .boolean) 0 [.int x0] σ (some q.1) q.2 := by
  refine wt_ctr wt_pl_tp_isSmall rfl (Nat.le_of_ble_eq_true rfl) [some (.int x0)] rfl ?_
  intro X hXl hXw hE hR
  subst hXl
  subst hXw
  have hE : wt_Ok X prog_7_method_14_code 1 "WornType$Tape" 0 0 := hE
  unfold wp_tp_isSmall at h
  refine wt_iload_n hE wp_tp_isSmall_d0 rfl ?_
  refine wt_bipush hE (97 : Int32) wp_tp_isSmall_d1 wt_cb_97 ?_
  refine wt_icmp_lt hE 16 wp_tp_isSmall_d3 rfl (fun c1 => ?_) (fun c1 => ?_)
  · have h := wt_ip c1 h
    refine wt_iconst hE (0 : Int32) wp_tp_isSmall_d16 wt_ci_0 ?_
    cases h
    exact wt_zret hE (by decide) hR wp_tp_isSmall_d17
  · have h := wt_in c1 h
    refine wt_iload_n hE wp_tp_isSmall_d6 rfl ?_
    refine wt_bipush hE (122 : Int32) wp_tp_isSmall_d7 wt_cb_122 ?_
    refine wt_icmp_gt hE 16 wp_tp_isSmall_d9 rfl (fun c2 => ?_) (fun c2 => ?_)
    · have h := wt_ip c2 h
      refine wt_iconst hE (0 : Int32) wp_tp_isSmall_d16 wt_ci_0 ?_
      cases h
      exact wt_zret hE (by decide) hR wp_tp_isSmall_d17
    · have h := wt_in c2 h
      refine wt_iconst hE (1 : Int32) wp_tp_isSmall_d12 wt_ci_1 ?_
      refine wt_goto hE 17 wp_tp_isSmall_d13 rfl ?_
      cases h
      exact wt_zret hE (by decide) hR wp_tp_isSmall_d17
def wb12m2_prog_7_method_5_code_r3 : List (List Nat) := [4, 182, 0, 52, 153, 0, 7, 4, 167, 0, 4, 3, 172] :: []
def wb12m2_prog_7_method_5_code_r2 : List (List Nat) := [42, 89, 180, 0, 32, 4, 96, 181, 0, 32, 132, 1, 1, 167, 255, 193, 42, 180, 0, 32, 42, 180, 0, 35, 163, 0, 11, 42] :: wb12m2_prog_7_method_5_code_r3
def wb12m2_prog_7_method_5_code_r1 : List (List Nat) := [184, 0, 48, 153, 0, 41, 42, 180, 0, 15, 27, 42, 180, 0, 9, 42, 180, 0, 32, 184, 0, 44, 16, 97, 100, 184, 0, 25] :: wb12m2_prog_7_method_5_code_r2
def wb12m2_prog_7_method_5_code_r0 : List (List Nat) := [42, 182, 0, 41, 3, 60, 42, 180, 0, 32, 42, 180, 0, 29, 162, 0, 58, 42, 180, 0, 9, 42, 180, 0, 32, 184, 0, 44] :: wb12m2_prog_7_method_5_code_r1
set_option maxRecDepth 100000 in
theorem wb12m2_prog_7_method_5_code_c0 : wt_cs prog_7_method_5_code 0 wb12m2_prog_7_method_5_code_r0 := wt_cs_of (by decide +kernel)
theorem wb12m2_prog_7_method_5_code_c1 : wt_cs prog_7_method_5_code 28 wb12m2_prog_7_method_5_code_r1 := wt_cs_tl (m := 28) wb12m2_prog_7_method_5_code_c0 rfl rfl
theorem wb12m2_prog_7_method_5_code_c2 : wt_cs prog_7_method_5_code 56 wb12m2_prog_7_method_5_code_r2 := wt_cs_tl (m := 28) wb12m2_prog_7_method_5_code_c1 rfl rfl
theorem wb12m2_prog_7_method_5_code_c3 : wt_cs prog_7_method_5_code 84 wb12m2_prog_7_method_5_code_r3 := wt_cs_tl (m := 28) wb12m2_prog_7_method_5_code_c2 rfl rfl
theorem wp_tp_takeWord_d0 : decode prog_7_method_5_code 0 = .ok (.aload_n 0, 1) := wt_op42 wb12m2_prog_7_method_5_code_c0 0 rfl rfl
theorem wp_tp_takeWord_d1 : decode prog_7_method_5_code 1 = .ok (.invokevirtual 41, 3) := wt_op182 wb12m2_prog_7_method_5_code_c0 1 rfl rfl rfl
theorem wp_tp_takeWord_d4 : decode prog_7_method_5_code 4 = .ok (.iconst 0, 1) := wt_op3 wb12m2_prog_7_method_5_code_c0 4 rfl rfl
theorem wp_tp_takeWord_d5 : decode prog_7_method_5_code 5 = .ok (.istore_n 1, 1) := wt_op60 wb12m2_prog_7_method_5_code_c0 5 rfl rfl
theorem wp_tp_takeWord_d6 : decode prog_7_method_5_code 6 = .ok (.aload_n 0, 1) := wt_op42 wb12m2_prog_7_method_5_code_c0 6 rfl rfl
theorem wp_tp_takeWord_d7 : decode prog_7_method_5_code 7 = .ok (.getfield 32, 3) := wt_op180 wb12m2_prog_7_method_5_code_c0 7 rfl rfl rfl
theorem wp_tp_takeWord_d10 : decode prog_7_method_5_code 10 = .ok (.aload_n 0, 1) := wt_op42 wb12m2_prog_7_method_5_code_c0 10 rfl rfl
theorem wp_tp_takeWord_d11 : decode prog_7_method_5_code 11 = .ok (.getfield 29, 3) := wt_op180 wb12m2_prog_7_method_5_code_c0 11 rfl rfl rfl
theorem wp_tp_takeWord_d14 : decode prog_7_method_5_code 14 = .ok (.if_icmp .ge 58, 3) := wt_op162 wb12m2_prog_7_method_5_code_c0 14 rfl rfl rfl
theorem wp_tp_takeWord_d17 : decode prog_7_method_5_code 17 = .ok (.aload_n 0, 1) := wt_op42 wb12m2_prog_7_method_5_code_c0 17 rfl rfl
theorem wp_tp_takeWord_d18 : decode prog_7_method_5_code 18 = .ok (.getfield 9, 3) := wt_op180 wb12m2_prog_7_method_5_code_c0 18 rfl rfl rfl
theorem wp_tp_takeWord_d21 : decode prog_7_method_5_code 21 = .ok (.aload_n 0, 1) := wt_op42 wb12m2_prog_7_method_5_code_c0 21 rfl rfl
theorem wp_tp_takeWord_d22 : decode prog_7_method_5_code 22 = .ok (.getfield 32, 3) := wt_op180 wb12m2_prog_7_method_5_code_c0 22 rfl rfl rfl
theorem wp_tp_takeWord_d25 : decode prog_7_method_5_code 25 = .ok (.invokestatic 44, 3) := wt_op184 wb12m2_prog_7_method_5_code_c0 25 rfl rfl rfl
theorem wp_tp_takeWord_d28 : decode prog_7_method_5_code 28 = .ok (.invokestatic 48, 3) := wt_op184 wb12m2_prog_7_method_5_code_c1 0 rfl rfl rfl
theorem wp_tp_takeWord_d31 : decode prog_7_method_5_code 31 = .ok (.ifCond .eq 41, 3) := wt_op153 wb12m2_prog_7_method_5_code_c1 3 rfl rfl rfl
theorem wp_tp_takeWord_d34 : decode prog_7_method_5_code 34 = .ok (.aload_n 0, 1) := wt_op42 wb12m2_prog_7_method_5_code_c1 6 rfl rfl
theorem wp_tp_takeWord_d35 : decode prog_7_method_5_code 35 = .ok (.getfield 15, 3) := wt_op180 wb12m2_prog_7_method_5_code_c1 7 rfl rfl rfl
theorem wp_tp_takeWord_d38 : decode prog_7_method_5_code 38 = .ok (.iload_n 1, 1) := wt_op27 wb12m2_prog_7_method_5_code_c1 10 rfl rfl
theorem wp_tp_takeWord_d39 : decode prog_7_method_5_code 39 = .ok (.aload_n 0, 1) := wt_op42 wb12m2_prog_7_method_5_code_c1 11 rfl rfl
theorem wp_tp_takeWord_d40 : decode prog_7_method_5_code 40 = .ok (.getfield 9, 3) := wt_op180 wb12m2_prog_7_method_5_code_c1 12 rfl rfl rfl
theorem wp_tp_takeWord_d43 : decode prog_7_method_5_code 43 = .ok (.aload_n 0, 1) := wt_op42 wb12m2_prog_7_method_5_code_c1 15 rfl rfl
theorem wp_tp_takeWord_d44 : decode prog_7_method_5_code 44 = .ok (.getfield 32, 3) := wt_op180 wb12m2_prog_7_method_5_code_c1 16 rfl rfl rfl
theorem wp_tp_takeWord_d47 : decode prog_7_method_5_code 47 = .ok (.invokestatic 44, 3) := wt_op184 wb12m2_prog_7_method_5_code_c1 19 rfl rfl rfl
theorem wp_tp_takeWord_d50 : decode prog_7_method_5_code 50 = .ok (.bipush 97, 2) := wt_op16 wb12m2_prog_7_method_5_code_c1 22 rfl rfl rfl
theorem wp_tp_takeWord_d52 : decode prog_7_method_5_code 52 = .ok (.isub, 1) := wt_op100 wb12m2_prog_7_method_5_code_c1 24 rfl rfl
theorem wp_tp_takeWord_d53 : decode prog_7_method_5_code 53 = .ok (.invokestatic 25, 3) := wt_op184 wb12m2_prog_7_method_5_code_c1 25 rfl rfl rfl
theorem wp_tp_takeWord_d56 : decode prog_7_method_5_code 56 = .ok (.aload_n 0, 1) := wt_op42 wb12m2_prog_7_method_5_code_c2 0 rfl rfl
theorem wp_tp_takeWord_d57 : decode prog_7_method_5_code 57 = .ok (.dup, 1) := wt_op89 wb12m2_prog_7_method_5_code_c2 1 rfl rfl
theorem wp_tp_takeWord_d58 : decode prog_7_method_5_code 58 = .ok (.getfield 32, 3) := wt_op180 wb12m2_prog_7_method_5_code_c2 2 rfl rfl rfl
theorem wp_tp_takeWord_d61 : decode prog_7_method_5_code 61 = .ok (.iconst 1, 1) := wt_op4 wb12m2_prog_7_method_5_code_c2 5 rfl rfl
theorem wp_tp_takeWord_d62 : decode prog_7_method_5_code 62 = .ok (.iadd, 1) := wt_op96 wb12m2_prog_7_method_5_code_c2 6 rfl rfl
theorem wp_tp_takeWord_d63 : decode prog_7_method_5_code 63 = .ok (.putfield 32, 3) := wt_op181 wb12m2_prog_7_method_5_code_c2 7 rfl rfl rfl
theorem wp_tp_takeWord_d66 : decode prog_7_method_5_code 66 = .ok (.iinc 1 1, 3) := wt_op132 wb12m2_prog_7_method_5_code_c2 10 rfl rfl rfl
theorem wp_tp_takeWord_d69 : decode prog_7_method_5_code 69 = .ok (.goto (-63), 3) := wt_op167 wb12m2_prog_7_method_5_code_c2 13 rfl rfl rfl
theorem wp_tp_takeWord_d72 : decode prog_7_method_5_code 72 = .ok (.aload_n 0, 1) := wt_op42 wb12m2_prog_7_method_5_code_c2 16 rfl rfl
theorem wp_tp_takeWord_d73 : decode prog_7_method_5_code 73 = .ok (.getfield 32, 3) := wt_op180 wb12m2_prog_7_method_5_code_c2 17 rfl rfl rfl
theorem wp_tp_takeWord_d76 : decode prog_7_method_5_code 76 = .ok (.aload_n 0, 1) := wt_op42 wb12m2_prog_7_method_5_code_c2 20 rfl rfl
theorem wp_tp_takeWord_d77 : decode prog_7_method_5_code 77 = .ok (.getfield 35, 3) := wt_op180 wb12m2_prog_7_method_5_code_c2 21 rfl rfl rfl
theorem wp_tp_takeWord_d80 : decode prog_7_method_5_code 80 = .ok (.if_icmp .gt 11, 3) := wt_op163 wb12m2_prog_7_method_5_code_c2 24 rfl rfl rfl
theorem wp_tp_takeWord_d83 : decode prog_7_method_5_code 83 = .ok (.aload_n 0, 1) := wt_op42 wb12m2_prog_7_method_5_code_c2 27 rfl rfl
theorem wp_tp_takeWord_d84 : decode prog_7_method_5_code 84 = .ok (.iconst 1, 1) := wt_op4 wb12m2_prog_7_method_5_code_c3 0 rfl rfl
theorem wp_tp_takeWord_d85 : decode prog_7_method_5_code 85 = .ok (.invokevirtual 52, 3) := wt_op182 wb12m2_prog_7_method_5_code_c3 1 rfl rfl rfl
theorem wp_tp_takeWord_d88 : decode prog_7_method_5_code 88 = .ok (.ifCond .eq 7, 3) := wt_op153 wb12m2_prog_7_method_5_code_c3 4 rfl rfl rfl
theorem wp_tp_takeWord_d91 : decode prog_7_method_5_code 91 = .ok (.iconst 1, 1) := wt_op4 wb12m2_prog_7_method_5_code_c3 7 rfl rfl
theorem wp_tp_takeWord_d92 : decode prog_7_method_5_code 92 = .ok (.goto 4, 3) := wt_op167 wb12m2_prog_7_method_5_code_c3 8 rfl rfl rfl
theorem wp_tp_takeWord_d95 : decode prog_7_method_5_code 95 = .ok (.iconst 0, 1) := wt_op3 wb12m2_prog_7_method_5_code_c3 11 rfl rfl
theorem wp_tp_takeWord_d96 : decode prog_7_method_5_code 96 = .ok (.ireturn, 1) := wt_op172 wb12m2_prog_7_method_5_code_c3 12 rfl rfl
noncomputable def wp_tp_takeWord_B72 (n : Nat) (σ : wt_St) : Option (Int32 × wt_St) :=
  if (wt_gf σ 1 5) < (wt_gf σ 1 4) then
    some ((1 : Int32), σ)
  else
    (wp_tp_fail n (1 : Int32) σ).bind fun q4 =>
    if q4.1 = 0 then
      some ((0 : Int32), q4.2)
    else
      some ((1 : Int32), q4.2)
set_option maxRecDepth 100000 in
set_option maxHeartbeats 4000000 in
theorem wp_tp_takeWord_B72_ok  {X : wt_X} {n : Nat} {res : Int32 × wt_St} (hE : wt_Ok X prog_7_method_5_code 2 "WornType$Tape" 2 0) (hR : wt_Rt X (some .boolean) (some res.1) res.2) (hD : ∀ i, i < 108 → wt_dom (wt_xw X) i)  {σ : wt_St} (h : wp_tp_takeWord_B72 n σ = some res) : wt_V X 0 σ 72 [some (.ref (wt_ad (wt_xw X) 1)), none] [] := by
  unfold wp_tp_takeWord_B72 at h
  refine wt_aload_n hE wp_tp_takeWord_d72 rfl ?_
  refine wt_geti hE wt_lf_tp_32 (hD 1 (Nat.le_of_ble_eq_true rfl)) wt_L1 rfl wp_tp_takeWord_d73 ?_
  refine wt_aload_n hE wp_tp_takeWord_d76 rfl ?_
  refine wt_geti hE wt_lf_tp_35 (hD 1 (Nat.le_of_ble_eq_true rfl)) wt_L1 rfl wp_tp_takeWord_d77 ?_
  refine wt_icmp_gt hE 91 wp_tp_takeWord_d80 rfl (fun c3 => ?_) (fun c3 => ?_)
  · have h := wt_ip c3 h
    refine wt_iconst hE (1 : Int32) wp_tp_takeWord_d91 wt_ci_1 ?_
    refine wt_goto hE 96 wp_tp_takeWord_d92 rfl ?_
    cases h
    exact wt_zret hE (by decide) hR wp_tp_takeWord_d96
  · have h := wt_in c3 h
    refine wt_aload_n hE wp_tp_takeWord_d83 rfl ?_
    refine wt_iconst hE (1 : Int32) wp_tp_takeWord_d84 wt_ci_1 ?_
    obtain ⟨q4, hq4, h⟩ := wt_bi h
    refine wt_callVi hE [.int (1 : Int32)] wt_lm_tp_52 wt_ya_tp_fail (wp_tp_fail_ok hD hq4) (by omega) (hD 1 (Nat.le_of_ble_eq_true rfl)) wt_L1 rfl rfl rfl (Nat.le_of_ble_eq_true rfl) (Nat.zero_le _) wp_tp_takeWord_d85 (fun hbq4 => ?_)
    refine wt_if_eq hE 95 wp_tp_takeWord_d88 rfl (fun c5 => ?_) (fun c5 => ?_)
    · have h := wt_ip c5 h
      refine wt_iconst hE (0 : Int32) wp_tp_takeWord_d95 wt_ci_0 ?_
      cases h
      exact wt_zret hE (by decide) hR wp_tp_takeWord_d96
    · have h := wt_in c5 h
      refine wt_iconst hE (1 : Int32) wp_tp_takeWord_d91 wt_ci_1 ?_
      refine wt_goto hE 96 wp_tp_takeWord_d92 rfl ?_
      cases h
      exact wt_zret hE (by decide) hR wp_tp_takeWord_d96
noncomputable def wp_tp_takeWord_B6 (n : Nat) (K6 : Int32 × wt_St → Option (Int32 × wt_St)) (s : Int32 × wt_St) : Option (Int32 × wt_St) :=
  if (wt_gf s.2 1 3) ≤ (wt_gf s.2 1 4) then
    wp_tp_takeWord_B72 n s.2
  else
    (wp_ap_look n 2 (wt_gf s.2 1 4) s.2).bind fun q6 =>
    (wp_tp_isSmall n q6.1 q6.2).bind fun q7 =>
    if q7.1 = 0 then
      wp_tp_takeWord_B72 n q7.2
    else
      (wp_ap_look n 2 (wt_gf q7.2 1 4) q7.2).bind fun q9 =>
      (wp_ap_put n 3 s.1 (q9.1 - (97 : Int32)) q9.2).bind fun q10 =>
      K6 ((s.1 + (1 : Int32)), (wt_sf q10 1 4 ((wt_gf q10 1 4) + (1 : Int32))))
set_option maxRecDepth 100000 in
set_option maxHeartbeats 4000000 in
theorem wp_tp_takeWord_B6_ok  {X : wt_X} {n : Nat} {res : Int32 × wt_St} (hE : wt_Ok X prog_7_method_5_code 2 "WornType$Tape" 2 0) (hR : wt_Rt X (some .boolean) (some res.1) res.2) (hD : ∀ i, i < 108 → wt_dom (wt_xw X) i)  {K6 : Int32 × wt_St → Option (Int32 × wt_St)} (hK6 : ∀ s : Int32 × wt_St, K6 s = some res → wt_V X 0 s.2 6 [some (.ref (wt_ad (wt_xw X) 1)), some (.int s.1)] []) {s : Int32 × wt_St} (h : wp_tp_takeWord_B6 n K6 s = some res) : wt_V X 0 s.2 6 [some (.ref (wt_ad (wt_xw X) 1)), some (.int s.1)] [] := by
  unfold wp_tp_takeWord_B6 at h
  refine wt_aload_n hE wp_tp_takeWord_d6 rfl ?_
  refine wt_geti hE wt_lf_tp_32 (hD 1 (Nat.le_of_ble_eq_true rfl)) wt_L1 rfl wp_tp_takeWord_d7 ?_
  refine wt_aload_n hE wp_tp_takeWord_d10 rfl ?_
  refine wt_geti hE wt_lf_tp_29 (hD 1 (Nat.le_of_ble_eq_true rfl)) wt_L1 rfl wp_tp_takeWord_d11 ?_
  refine wt_icmp_ge hE 72 wp_tp_takeWord_d14 rfl (fun c2 => ?_) (fun c2 => ?_)
  · have h := wt_ip c2 h
    refine wt_wk [true, false] rfl ?_
    exact wp_tp_takeWord_B72_ok hE hR hD h
  · have h := wt_in c2 h
    refine wt_aload_n hE wp_tp_takeWord_d17 rfl ?_
    refine wt_getr hE (r := 2) wt_lf_tp_9 (hD 1 (Nat.le_of_ble_eq_true rfl)) wt_L1 rfl wp_tp_takeWord_d18 ?_
    refine wt_aload_n hE wp_tp_takeWord_d21 rfl ?_
    refine wt_geti hE wt_lf_tp_32 (hD 1 (Nat.le_of_ble_eq_true rfl)) wt_L1 rfl wp_tp_takeWord_d22 ?_
    obtain ⟨q6, hq6, h⟩ := wt_bi h
    refine wt_callSi hE [.ref (wt_ad (wt_xw X) 2), .int (wt_gf s.2 1 4)] wt_lm_tp_44 wt_ya_ap_look (wp_ap_look_ok (wt_lnE wt_L2) (hD 2 (Nat.le_of_ble_eq_true rfl)) hq6) (by omega) rfl rfl (Nat.le_of_ble_eq_true rfl) (Nat.zero_le _) wp_tp_takeWord_d25 (fun hbq6 => ?_)
    obtain ⟨q7, hq7, h⟩ := wt_bi h
    refine wt_callSi hE [.int q6.1] wt_lm_tp_48 wt_ya_tp_isSmall (wp_tp_isSmall_ok hq7) (by omega) rfl rfl (Nat.le_of_ble_eq_true rfl) (Nat.zero_le _) wp_tp_takeWord_d28 (fun hbq7 => ?_)
    refine wt_if_eq hE 72 wp_tp_takeWord_d31 rfl (fun c8 => ?_) (fun c8 => ?_)
    · have h := wt_ip c8 h
      refine wt_wk [true, false] rfl ?_
      exact wp_tp_takeWord_B72_ok hE hR hD h
    · have h := wt_in c8 h
      refine wt_aload_n hE wp_tp_takeWord_d34 rfl ?_
      refine wt_getr hE (r := 3) wt_lf_tp_15 (hD 1 (Nat.le_of_ble_eq_true rfl)) wt_L1 rfl wp_tp_takeWord_d35 ?_
      refine wt_iload_n hE wp_tp_takeWord_d38 rfl ?_
      refine wt_aload_n hE wp_tp_takeWord_d39 rfl ?_
      refine wt_getr hE (r := 2) wt_lf_tp_9 (hD 1 (Nat.le_of_ble_eq_true rfl)) wt_L1 rfl wp_tp_takeWord_d40 ?_
      refine wt_aload_n hE wp_tp_takeWord_d43 rfl ?_
      refine wt_geti hE wt_lf_tp_32 (hD 1 (Nat.le_of_ble_eq_true rfl)) wt_L1 rfl wp_tp_takeWord_d44 ?_
      obtain ⟨q9, hq9, h⟩ := wt_bi h
      refine wt_callSi hE [.ref (wt_ad (wt_xw X) 2), .int (wt_gf q7.2 1 4)] wt_lm_tp_44 wt_ya_ap_look (wp_ap_look_ok (wt_lnE wt_L2) (hD 2 (Nat.le_of_ble_eq_true rfl)) hq9) (by omega) rfl rfl (Nat.le_of_ble_eq_true rfl) (Nat.zero_le _) wp_tp_takeWord_d47 (fun hbq9 => ?_)
      refine wt_bipush hE (97 : Int32) wp_tp_takeWord_d50 wt_cb_97 ?_
      refine wt_isub hE wp_tp_takeWord_d52 ?_
      obtain ⟨q10, hq10, h⟩ := wt_bi h
      refine wt_callSv hE [.ref (wt_ad (wt_xw X) 3), .int s.1, .int (q9.1 - (97 : Int32))] wt_lm_tp_25 wt_ya_ap_put (wp_ap_put_ok (wt_lnE wt_L3) (hD 3 (Nat.le_of_ble_eq_true rfl)) hq10) (by omega) rfl rfl (Nat.le_of_ble_eq_true rfl) (Nat.zero_le _) wp_tp_takeWord_d53 ?_
      refine wt_aload_n hE wp_tp_takeWord_d56 rfl ?_
      refine wt_dup hE wp_tp_takeWord_d57 rfl ?_
      refine wt_geti hE wt_lf_tp_32 (hD 1 (Nat.le_of_ble_eq_true rfl)) wt_L1 rfl wp_tp_takeWord_d58 ?_
      refine wt_iconst hE (1 : Int32) wp_tp_takeWord_d61 wt_ci_1 ?_
      refine wt_iadd hE wp_tp_takeWord_d62 ?_
      refine wt_puti hE wt_lf_tp_32 (hD 1 (Nat.le_of_ble_eq_true rfl)) wt_L1 rfl (fun q hq => by cases hq; rfl) wp_tp_takeWord_d63 ?_
      refine wt_iinc hE (s.1 + (1 : Int32)) [some (.ref (wt_ad (wt_xw X) 1)), some (.int (s.1 + (1 : Int32)))] wp_tp_takeWord_d66 (by decide) rfl rfl rfl ?_
      refine wt_goto hE 6 wp_tp_takeWord_d69 rfl ?_
      exact hK6 ((s.1 + (1 : Int32)), (wt_sf q10 1 4 ((wt_gf q10 1 4) + (1 : Int32)))) h
noncomputable def wp_tp_takeWord (n : Nat) (σ : wt_St) : Option (Int32 × wt_St) :=
  (wp_tp_skipBlanks n σ).bind fun q1 =>
  wt_it (wp_tp_takeWord_B6 n) n ((0 : Int32), q1)
set_option maxRecDepth 100000 in
set_option maxHeartbeats 4000000 in
theorem wp_tp_takeWord_ok {l : Launch} {w : wt_E} {n : Nat} (hD : ∀ i, i < 108 → wt_dom w i) {σ : wt_St} {q : Int32 × wt_St} (h : wp_tp_takeWord n σ = some q) : wt_Ctr l w wt_y_tp_takeWord prog_7_method_5_code 2 (some .boolean) 2 [.ref (wt_ad w 1)] σ (some q.1) q.2 := by
  refine wt_ctr wt_pl_tp_takeWord rfl (Nat.le_of_ble_eq_true rfl) [some (.ref (wt_ad w 1)), none] rfl ?_
  intro X hXl hXw hE hR
  subst hXl
  subst hXw
  have hE : wt_Ok X prog_7_method_5_code 2 "WornType$Tape" 2 0 := hE
  unfold wp_tp_takeWord at h
  refine wt_aload_n hE wp_tp_takeWord_d0 rfl ?_
  obtain ⟨q1, hq1, h⟩ := wt_bi h
  refine wt_callVv hE [] wt_lm_tp_41 wt_ya_tp_skipBlanks (wp_tp_skipBlanks_ok hD hq1) (by omega) (hD 1 (Nat.le_of_ble_eq_true rfl)) wt_L1 rfl rfl rfl (Nat.le_of_ble_eq_true rfl) (Nat.zero_le _) wp_tp_takeWord_d1 ?_
  refine wt_iconst hE (0 : Int32) wp_tp_takeWord_d4 wt_ci_0 ?_
  refine wt_istore_n hE [some (.ref (wt_ad (wt_xw X) 1)), some (.int (0 : Int32))] wp_tp_takeWord_d5 (by decide) rfl ?_
  exact wt_it_ind (fun z => wt_V X 0 z.2 6 [some (.ref (wt_ad (wt_xw X) 1)), some (.int z.1)] []) (fun K hK z h => wp_tp_takeWord_B6_ok hE hR hD hK h) n ((0 : Int32), q1) h
def wb12m2_prog_7_method_6_code_r0 : List (List Nat) := [42, 180, 0, 32, 42, 180, 0, 35, 100, 172] :: []
set_option maxRecDepth 100000 in
theorem wb12m2_prog_7_method_6_code_c0 : wt_cs prog_7_method_6_code 0 wb12m2_prog_7_method_6_code_r0 := wt_cs_of (by decide +kernel)
theorem wp_tp_wordLength_d0 : decode prog_7_method_6_code 0 = .ok (.aload_n 0, 1) := wt_op42 wb12m2_prog_7_method_6_code_c0 0 rfl rfl
theorem wp_tp_wordLength_d1 : decode prog_7_method_6_code 1 = .ok (.getfield 32, 3) := wt_op180 wb12m2_prog_7_method_6_code_c0 1 rfl rfl rfl
theorem wp_tp_wordLength_d4 : decode prog_7_method_6_code 4 = .ok (.aload_n 0, 1) := wt_op42 wb12m2_prog_7_method_6_code_c0 4 rfl rfl
theorem wp_tp_wordLength_d5 : decode prog_7_method_6_code 5 = .ok (.getfield 35, 3) := wt_op180 wb12m2_prog_7_method_6_code_c0 5 rfl rfl rfl
theorem wp_tp_wordLength_d8 : decode prog_7_method_6_code 8 = .ok (.isub, 1) := wt_op100 wb12m2_prog_7_method_6_code_c0 8 rfl rfl
theorem wp_tp_wordLength_d9 : decode prog_7_method_6_code 9 = .ok (.ireturn, 1) := wt_op172 wb12m2_prog_7_method_6_code_c0 9 rfl rfl
noncomputable def wp_tp_wordLength (n : Nat) (σ : wt_St) : Option (Int32 × wt_St) :=
  some (((wt_gf σ 1 4) - (wt_gf σ 1 5)), σ)
set_option maxRecDepth 100000 in
set_option maxHeartbeats 4000000 in
theorem wp_tp_wordLength_ok {l : Launch} {w : wt_E} {n : Nat} (hD : ∀ i, i < 108 → wt_dom w i) {σ : wt_St} {q : Int32 × wt_St} (h : wp_tp_wordLength n σ = some q) : wt_Ctr l w wt_y_tp_wordLength prog_7_method_6_code 1 (some .int) 0 [.ref (wt_ad w 1)] σ (some q.1) q.2 := by
  refine wt_ctr wt_pl_tp_wordLength rfl (Nat.le_of_ble_eq_true rfl) [some (.ref (wt_ad w 1))] rfl ?_
  intro X hXl hXw hE hR
  subst hXl
  subst hXw
  have hE : wt_Ok X prog_7_method_6_code 1 "WornType$Tape" 0 0 := hE
  unfold wp_tp_wordLength at h
  refine wt_aload_n hE wp_tp_wordLength_d0 rfl ?_
  refine wt_geti hE wt_lf_tp_32 (hD 1 (Nat.le_of_ble_eq_true rfl)) wt_L1 rfl wp_tp_wordLength_d1 ?_
  refine wt_aload_n hE wp_tp_wordLength_d4 rfl ?_
  refine wt_geti hE wt_lf_tp_35 (hD 1 (Nat.le_of_ble_eq_true rfl)) wt_L1 rfl wp_tp_wordLength_d5 ?_
  refine wt_isub hE wp_tp_wordLength_d8 ?_
  cases h
  exact wt_iret hE hR wp_tp_wordLength_d9
def wb12m2_prog_7_method_8_code_r1 : List (List Nat) := [3, 184, 0, 44, 172] :: []
def wb12m2_prog_7_method_8_code_r0 : List (List Nat) := [42, 182, 0, 68, 154, 0, 5, 2, 172, 42, 182, 0, 55, 4, 164, 0, 11, 42, 5, 182, 0, 52, 87, 2, 172, 42, 180, 0, 15] :: wb12m2_prog_7_method_8_code_r1
set_option maxRecDepth 100000 in
theorem wb12m2_prog_7_method_8_code_c0 : wt_cs prog_7_method_8_code 0 wb12m2_prog_7_method_8_code_r0 := wt_cs_of (by decide +kernel)
theorem wb12m2_prog_7_method_8_code_c1 : wt_cs prog_7_method_8_code 29 wb12m2_prog_7_method_8_code_r1 := wt_cs_tl (m := 29) wb12m2_prog_7_method_8_code_c0 rfl rfl
theorem wp_tp_takeLetter_d0 : decode prog_7_method_8_code 0 = .ok (.aload_n 0, 1) := wt_op42 wb12m2_prog_7_method_8_code_c0 0 rfl rfl
theorem wp_tp_takeLetter_d1 : decode prog_7_method_8_code 1 = .ok (.invokevirtual 68, 3) := wt_op182 wb12m2_prog_7_method_8_code_c0 1 rfl rfl rfl
theorem wp_tp_takeLetter_d4 : decode prog_7_method_8_code 4 = .ok (.ifCond .ne 5, 3) := wt_op154 wb12m2_prog_7_method_8_code_c0 4 rfl rfl rfl
theorem wp_tp_takeLetter_d7 : decode prog_7_method_8_code 7 = .ok (.iconst (-1), 1) := wt_op2 wb12m2_prog_7_method_8_code_c0 7 rfl rfl
theorem wp_tp_takeLetter_d8 : decode prog_7_method_8_code 8 = .ok (.ireturn, 1) := wt_op172 wb12m2_prog_7_method_8_code_c0 8 rfl rfl
theorem wp_tp_takeLetter_d9 : decode prog_7_method_8_code 9 = .ok (.aload_n 0, 1) := wt_op42 wb12m2_prog_7_method_8_code_c0 9 rfl rfl
theorem wp_tp_takeLetter_d10 : decode prog_7_method_8_code 10 = .ok (.invokevirtual 55, 3) := wt_op182 wb12m2_prog_7_method_8_code_c0 10 rfl rfl rfl
theorem wp_tp_takeLetter_d13 : decode prog_7_method_8_code 13 = .ok (.iconst 1, 1) := wt_op4 wb12m2_prog_7_method_8_code_c0 13 rfl rfl
theorem wp_tp_takeLetter_d14 : decode prog_7_method_8_code 14 = .ok (.if_icmp .le 11, 3) := wt_op164 wb12m2_prog_7_method_8_code_c0 14 rfl rfl rfl
theorem wp_tp_takeLetter_d17 : decode prog_7_method_8_code 17 = .ok (.aload_n 0, 1) := wt_op42 wb12m2_prog_7_method_8_code_c0 17 rfl rfl
theorem wp_tp_takeLetter_d18 : decode prog_7_method_8_code 18 = .ok (.iconst 2, 1) := wt_op5 wb12m2_prog_7_method_8_code_c0 18 rfl rfl
theorem wp_tp_takeLetter_d19 : decode prog_7_method_8_code 19 = .ok (.invokevirtual 52, 3) := wt_op182 wb12m2_prog_7_method_8_code_c0 19 rfl rfl rfl
theorem wp_tp_takeLetter_d22 : decode prog_7_method_8_code 22 = .ok (.pop, 1) := wt_op87 wb12m2_prog_7_method_8_code_c0 22 rfl rfl
theorem wp_tp_takeLetter_d23 : decode prog_7_method_8_code 23 = .ok (.iconst (-1), 1) := wt_op2 wb12m2_prog_7_method_8_code_c0 23 rfl rfl
theorem wp_tp_takeLetter_d24 : decode prog_7_method_8_code 24 = .ok (.ireturn, 1) := wt_op172 wb12m2_prog_7_method_8_code_c0 24 rfl rfl
theorem wp_tp_takeLetter_d25 : decode prog_7_method_8_code 25 = .ok (.aload_n 0, 1) := wt_op42 wb12m2_prog_7_method_8_code_c0 25 rfl rfl
theorem wp_tp_takeLetter_d26 : decode prog_7_method_8_code 26 = .ok (.getfield 15, 3) := wt_op180 wb12m2_prog_7_method_8_code_c0 26 rfl rfl rfl
theorem wp_tp_takeLetter_d29 : decode prog_7_method_8_code 29 = .ok (.iconst 0, 1) := wt_op3 wb12m2_prog_7_method_8_code_c1 0 rfl rfl
theorem wp_tp_takeLetter_d30 : decode prog_7_method_8_code 30 = .ok (.invokestatic 44, 3) := wt_op184 wb12m2_prog_7_method_8_code_c1 1 rfl rfl rfl
theorem wp_tp_takeLetter_d33 : decode prog_7_method_8_code 33 = .ok (.ireturn, 1) := wt_op172 wb12m2_prog_7_method_8_code_c1 4 rfl rfl
noncomputable def wp_tp_takeLetter (n : Nat) (σ : wt_St) : Option (Int32 × wt_St) :=
  (wp_tp_takeWord n σ).bind fun q1 =>
  if q1.1 = 0 then
    some ((-1 : Int32), q1.2)
  else
    (wp_tp_wordLength n q1.2).bind fun q3 =>
    if q3.1 ≤ (1 : Int32) then
      (wp_ap_look n 3 (0 : Int32) q3.2).bind fun q5 =>
      some (q5.1, q5.2)
    else
      (wp_tp_fail n (2 : Int32) q3.2).bind fun q6 =>
      some ((-1 : Int32), q6.2)
set_option maxRecDepth 100000 in
set_option maxHeartbeats 4000000 in
theorem wp_tp_takeLetter_ok {l : Launch} {w : wt_E} {n : Nat} (hD : ∀ i, i < 108 → wt_dom w i) {σ : wt_St} {q : Int32 × wt_St} (h : wp_tp_takeLetter n σ = some q) : wt_Ctr l w wt_y_tp_takeLetter prog_7_method_8_code 1 (some .int) 3 [.ref (wt_ad w 1)] σ (some q.1) q.2 := by
  refine wt_ctr wt_pl_tp_takeLetter rfl (Nat.le_of_ble_eq_true rfl) [some (.ref (wt_ad w 1))] rfl ?_
  intro X hXl hXw hE hR
  subst hXl
  subst hXw
  have hE : wt_Ok X prog_7_method_8_code 1 "WornType$Tape" 3 0 := hE
  unfold wp_tp_takeLetter at h
  refine wt_aload_n hE wp_tp_takeLetter_d0 rfl ?_
  obtain ⟨q1, hq1, h⟩ := wt_bi h
  refine wt_callVi hE [] wt_lm_tp_68 wt_ya_tp_takeWord (wp_tp_takeWord_ok hD hq1) (by omega) (hD 1 (Nat.le_of_ble_eq_true rfl)) wt_L1 rfl rfl rfl (Nat.le_of_ble_eq_true rfl) (Nat.zero_le _) wp_tp_takeLetter_d1 (fun hbq1 => ?_)
  refine wt_if_ne hE 9 wp_tp_takeLetter_d4 rfl (fun c2 => ?_) (fun c2 => ?_)
  · have h := wt_in c2 h
    refine wt_aload_n hE wp_tp_takeLetter_d9 rfl ?_
    obtain ⟨q3, hq3, h⟩ := wt_bi h
    refine wt_callVi hE [] wt_lm_tp_55 wt_ya_tp_wordLength (wp_tp_wordLength_ok hD hq3) (by omega) (hD 1 (Nat.le_of_ble_eq_true rfl)) wt_L1 rfl rfl rfl (Nat.le_of_ble_eq_true rfl) (Nat.zero_le _) wp_tp_takeLetter_d10 (fun hbq3 => ?_)
    refine wt_iconst hE (1 : Int32) wp_tp_takeLetter_d13 wt_ci_1 ?_
    refine wt_icmp_le hE 25 wp_tp_takeLetter_d14 rfl (fun c4 => ?_) (fun c4 => ?_)
    · have h := wt_ip c4 h
      refine wt_aload_n hE wp_tp_takeLetter_d25 rfl ?_
      refine wt_getr hE (r := 3) wt_lf_tp_15 (hD 1 (Nat.le_of_ble_eq_true rfl)) wt_L1 rfl wp_tp_takeLetter_d26 ?_
      refine wt_iconst hE (0 : Int32) wp_tp_takeLetter_d29 wt_ci_0 ?_
      obtain ⟨q5, hq5, h⟩ := wt_bi h
      refine wt_callSi hE [.ref (wt_ad (wt_xw X) 3), .int (0 : Int32)] wt_lm_tp_44 wt_ya_ap_look (wp_ap_look_ok (wt_lnE wt_L3) (hD 3 (Nat.le_of_ble_eq_true rfl)) hq5) (by omega) rfl rfl (Nat.le_of_ble_eq_true rfl) (Nat.zero_le _) wp_tp_takeLetter_d30 (fun hbq5 => ?_)
      cases h
      exact wt_iret hE hR wp_tp_takeLetter_d33
    · have h := wt_in c4 h
      refine wt_aload_n hE wp_tp_takeLetter_d17 rfl ?_
      refine wt_iconst hE (2 : Int32) wp_tp_takeLetter_d18 wt_ci_2 ?_
      obtain ⟨q6, hq6, h⟩ := wt_bi h
      refine wt_callVi hE [.int (2 : Int32)] wt_lm_tp_52 wt_ya_tp_fail (wp_tp_fail_ok hD hq6) (by omega) (hD 1 (Nat.le_of_ble_eq_true rfl)) wt_L1 rfl rfl rfl (Nat.le_of_ble_eq_true rfl) (Nat.zero_le _) wp_tp_takeLetter_d19 (fun hbq6 => ?_)
      refine wt_pop hE wp_tp_takeLetter_d22 rfl ?_
      refine wt_iconst hE (-1 : Int32) wp_tp_takeLetter_d23 wt_ci_m1 ?_
      cases h
      exact wt_iret hE hR wp_tp_takeLetter_d24
  · have h := wt_ip c2 h
    refine wt_iconst hE (-1 : Int32) wp_tp_takeLetter_d7 wt_ci_m1 ?_
    cases h
    exact wt_iret hE hR wp_tp_takeLetter_d8
def wb12m2_prog_2_method_12_code_r1 : List (List Nat) := [28, 29, 184, 0, 120, 4, 172] :: []
def wb12m2_prog_2_method_12_code_r0 : List (List Nat) := [43, 182, 0, 113, 61, 28, 2, 160, 0, 5, 3, 172, 43, 182, 0, 113, 62, 29, 2, 160, 0, 5, 3, 172, 42, 180, 0, 27] :: wb12m2_prog_2_method_12_code_r1
set_option maxRecDepth 100000 in
theorem wb12m2_prog_2_method_12_code_c0 : wt_cs prog_2_method_12_code 0 wb12m2_prog_2_method_12_code_r0 := wt_cs_of (by decide +kernel)
theorem wb12m2_prog_2_method_12_code_c1 : wt_cs prog_2_method_12_code 28 wb12m2_prog_2_method_12_code_r1 := wt_cs_tl (m := 28) wb12m2_prog_2_method_12_code_c0 rfl rfl
theorem wp_ld_fillLike_d0 : decode prog_2_method_12_code 0 = .ok (.aload_n 1, 1) := wt_op43 wb12m2_prog_2_method_12_code_c0 0 rfl rfl
theorem wp_ld_fillLike_d1 : decode prog_2_method_12_code 1 = .ok (.invokevirtual 113, 3) := wt_op182 wb12m2_prog_2_method_12_code_c0 1 rfl rfl rfl
theorem wp_ld_fillLike_d4 : decode prog_2_method_12_code 4 = .ok (.istore_n 2, 1) := wt_op61 wb12m2_prog_2_method_12_code_c0 4 rfl rfl
theorem wp_ld_fillLike_d5 : decode prog_2_method_12_code 5 = .ok (.iload_n 2, 1) := wt_op28 wb12m2_prog_2_method_12_code_c0 5 rfl rfl
theorem wp_ld_fillLike_d6 : decode prog_2_method_12_code 6 = .ok (.iconst (-1), 1) := wt_op2 wb12m2_prog_2_method_12_code_c0 6 rfl rfl
theorem wp_ld_fillLike_d7 : decode prog_2_method_12_code 7 = .ok (.if_icmp .ne 5, 3) := wt_op160 wb12m2_prog_2_method_12_code_c0 7 rfl rfl rfl
theorem wp_ld_fillLike_d10 : decode prog_2_method_12_code 10 = .ok (.iconst 0, 1) := wt_op3 wb12m2_prog_2_method_12_code_c0 10 rfl rfl
theorem wp_ld_fillLike_d11 : decode prog_2_method_12_code 11 = .ok (.ireturn, 1) := wt_op172 wb12m2_prog_2_method_12_code_c0 11 rfl rfl
theorem wp_ld_fillLike_d12 : decode prog_2_method_12_code 12 = .ok (.aload_n 1, 1) := wt_op43 wb12m2_prog_2_method_12_code_c0 12 rfl rfl
theorem wp_ld_fillLike_d13 : decode prog_2_method_12_code 13 = .ok (.invokevirtual 113, 3) := wt_op182 wb12m2_prog_2_method_12_code_c0 13 rfl rfl rfl
theorem wp_ld_fillLike_d16 : decode prog_2_method_12_code 16 = .ok (.istore_n 3, 1) := wt_op62 wb12m2_prog_2_method_12_code_c0 16 rfl rfl
theorem wp_ld_fillLike_d17 : decode prog_2_method_12_code 17 = .ok (.iload_n 3, 1) := wt_op29 wb12m2_prog_2_method_12_code_c0 17 rfl rfl
theorem wp_ld_fillLike_d18 : decode prog_2_method_12_code 18 = .ok (.iconst (-1), 1) := wt_op2 wb12m2_prog_2_method_12_code_c0 18 rfl rfl
theorem wp_ld_fillLike_d19 : decode prog_2_method_12_code 19 = .ok (.if_icmp .ne 5, 3) := wt_op160 wb12m2_prog_2_method_12_code_c0 19 rfl rfl rfl
theorem wp_ld_fillLike_d22 : decode prog_2_method_12_code 22 = .ok (.iconst 0, 1) := wt_op3 wb12m2_prog_2_method_12_code_c0 22 rfl rfl
theorem wp_ld_fillLike_d23 : decode prog_2_method_12_code 23 = .ok (.ireturn, 1) := wt_op172 wb12m2_prog_2_method_12_code_c0 23 rfl rfl
theorem wp_ld_fillLike_d24 : decode prog_2_method_12_code 24 = .ok (.aload_n 0, 1) := wt_op42 wb12m2_prog_2_method_12_code_c0 24 rfl rfl
theorem wp_ld_fillLike_d25 : decode prog_2_method_12_code 25 = .ok (.getfield 27, 3) := wt_op180 wb12m2_prog_2_method_12_code_c0 25 rfl rfl rfl
theorem wp_ld_fillLike_d28 : decode prog_2_method_12_code 28 = .ok (.iload_n 2, 1) := wt_op28 wb12m2_prog_2_method_12_code_c1 0 rfl rfl
theorem wp_ld_fillLike_d29 : decode prog_2_method_12_code 29 = .ok (.iload_n 3, 1) := wt_op29 wb12m2_prog_2_method_12_code_c1 1 rfl rfl
theorem wp_ld_fillLike_d30 : decode prog_2_method_12_code 30 = .ok (.invokestatic 120, 3) := wt_op184 wb12m2_prog_2_method_12_code_c1 2 rfl rfl rfl
theorem wp_ld_fillLike_d33 : decode prog_2_method_12_code 33 = .ok (.iconst 1, 1) := wt_op4 wb12m2_prog_2_method_12_code_c1 5 rfl rfl
theorem wp_ld_fillLike_d34 : decode prog_2_method_12_code 34 = .ok (.ireturn, 1) := wt_op172 wb12m2_prog_2_method_12_code_c1 6 rfl rfl
noncomputable def wp_ld_fillLike (n : Nat) (t0 : Nat) (σ : wt_St) : Option (Int32 × wt_St) :=
  (wp_tp_takeLetter n σ).bind fun q1 =>
  if q1.1 = (-1 : Int32) then
    some ((0 : Int32), q1.2)
  else
    (wp_tp_takeLetter n q1.2).bind fun q3 =>
    if q3.1 = (-1 : Int32) then
      some ((0 : Int32), q3.2)
    else
      (wp_ap_put n (t0 + 6) q1.1 q3.1 q3.2).bind fun q5 =>
      some ((1 : Int32), q5)
set_option maxRecDepth 100000 in
set_option maxHeartbeats 4000000 in
theorem wp_ld_fillLike_ok {l : Launch} {w : wt_E} {n : Nat} {t0 : Nat} (hD : ∀ i, i < 108 → wt_dom w i) (hI_t0 : wt_isLead t0) (hT_t0 : ∀ j, j < 8 → wt_dom w (t0 + j)) {σ : wt_St} {q : Int32 × wt_St} (h : wp_ld_fillLike n t0 σ = some q) : wt_Ctr l w wt_y_ld_fillLike prog_2_method_12_code 4 (some .boolean) 4 [.ref (wt_ad w t0), .ref (wt_ad w 1)] σ (some q.1) q.2 := by
  refine wt_ctr wt_pl_ld_fillLike rfl (Nat.le_of_ble_eq_true rfl) [some (.ref (wt_ad w t0)), some (.ref (wt_ad w 1)), none, none] rfl ?_
  intro X hXl hXw hE hR
  subst hXl
  subst hXw
  have hE : wt_Ok X prog_2_method_12_code 4 "WornType$Lead" 4 0 := hE
  unfold wp_ld_fillLike at h
  refine wt_aload_n hE wp_ld_fillLike_d0 rfl ?_
  obtain ⟨q1, hq1, h⟩ := wt_bi h
  refine wt_callVi hE [] wt_lm_ld_113 wt_ya_tp_takeLetter (wp_tp_takeLetter_ok hD hq1) (by omega) (hD 1 (Nat.le_of_ble_eq_true rfl)) wt_L1 rfl rfl rfl (Nat.le_of_ble_eq_true rfl) (Nat.zero_le _) wp_ld_fillLike_d1 (fun hbq1 => ?_)
  refine wt_istore_n hE [some (.ref (wt_ad (wt_xw X) t0)), some (.ref (wt_ad (wt_xw X) 1)), some (.int q1.1), none] wp_ld_fillLike_d4 (by decide) rfl ?_
  refine wt_iload_n hE wp_ld_fillLike_d5 rfl ?_
  refine wt_iconst hE (-1 : Int32) wp_ld_fillLike_d6 wt_ci_m1 ?_
  refine wt_icmp_ne hE 12 wp_ld_fillLike_d7 rfl (fun c2 => ?_) (fun c2 => ?_)
  · have h := wt_in c2 h
    refine wt_aload_n hE wp_ld_fillLike_d12 rfl ?_
    obtain ⟨q3, hq3, h⟩ := wt_bi h
    refine wt_callVi hE [] wt_lm_ld_113 wt_ya_tp_takeLetter (wp_tp_takeLetter_ok hD hq3) (by omega) (hD 1 (Nat.le_of_ble_eq_true rfl)) wt_L1 rfl rfl rfl (Nat.le_of_ble_eq_true rfl) (Nat.zero_le _) wp_ld_fillLike_d13 (fun hbq3 => ?_)
    refine wt_istore_n hE [some (.ref (wt_ad (wt_xw X) t0)), some (.ref (wt_ad (wt_xw X) 1)), some (.int q1.1), some (.int q3.1)] wp_ld_fillLike_d16 (by decide) rfl ?_
    refine wt_iload_n hE wp_ld_fillLike_d17 rfl ?_
    refine wt_iconst hE (-1 : Int32) wp_ld_fillLike_d18 wt_ci_m1 ?_
    refine wt_icmp_ne hE 24 wp_ld_fillLike_d19 rfl (fun c4 => ?_) (fun c4 => ?_)
    · have h := wt_in c4 h
      refine wt_aload_n hE wp_ld_fillLike_d24 rfl ?_
      refine wt_getr hE (r := (t0 + 6)) wt_lf_ld_27 (hT_t0 0 (Nat.le_of_ble_eq_true rfl)) (hI_t0.1) rfl wp_ld_fillLike_d25 ?_
      refine wt_iload_n hE wp_ld_fillLike_d28 rfl ?_
      refine wt_iload_n hE wp_ld_fillLike_d29 rfl ?_
      obtain ⟨q5, hq5, h⟩ := wt_bi h
      refine wt_callSv hE [.ref (wt_ad (wt_xw X) ((t0 + 6))), .int q1.1, .int q3.1] wt_lm_ld_120 wt_ya_ap_put (wp_ap_put_ok (wt_lnE (wt_isLead_L6 hI_t0)) (hT_t0 6 (Nat.le_of_ble_eq_true rfl)) hq5) (by omega) rfl rfl (Nat.le_of_ble_eq_true rfl) (Nat.zero_le _) wp_ld_fillLike_d30 ?_
      refine wt_iconst hE (1 : Int32) wp_ld_fillLike_d33 wt_ci_1 ?_
      cases h
      exact wt_zret hE (by decide) hR wp_ld_fillLike_d34
    · have h := wt_ip c4 h
      refine wt_iconst hE (0 : Int32) wp_ld_fillLike_d22 wt_ci_0 ?_
      cases h
      exact wt_zret hE (by decide) hR wp_ld_fillLike_d23
  · have h := wt_ip c2 h
    refine wt_iconst hE (0 : Int32) wp_ld_fillLike_d10 wt_ci_0 ?_
    cases h
    exact wt_zret hE (by decide) hR wp_ld_fillLike_d11
def wb12m2_prog_2_method_9_code_r3 : List (List Nat) := [167, 255, 230, 43, 29, 21, 4, 21, 5, 96, 184, 0, 120, 4, 172] :: []
def wb12m2_prog_2_method_9_code_r2 : List (List Nat) := [21, 4, 54, 7, 21, 7, 21, 4, 21, 5, 96, 162, 0, 22, 44, 29, 16, 12, 104, 21, 7, 96, 21, 6, 184, 0, 120, 132, 7, 1] :: wb12m2_prog_2_method_9_code_r3
def wb12m2_prog_2_method_9_code_r1 : List (List Nat) := [54, 5, 21, 5, 2, 160, 0, 5, 3, 172, 42, 4, 17, 1, 144, 182, 0, 117, 54, 6, 21, 6, 2, 160, 0, 5, 3, 172] :: wb12m2_prog_2_method_9_code_r2
def wb12m2_prog_2_method_9_code_r0 : List (List Nat) := [42, 182, 0, 113, 62, 29, 2, 160, 0, 5, 3, 172, 43, 29, 184, 0, 44, 54, 4, 42, 4, 16, 12, 21, 4, 100, 182, 0, 117] :: wb12m2_prog_2_method_9_code_r1
set_option maxRecDepth 100000 in
theorem wb12m2_prog_2_method_9_code_c0 : wt_cs prog_2_method_9_code 0 wb12m2_prog_2_method_9_code_r0 := wt_cs_of (by decide +kernel)
theorem wb12m2_prog_2_method_9_code_c1 : wt_cs prog_2_method_9_code 29 wb12m2_prog_2_method_9_code_r1 := wt_cs_tl (m := 29) wb12m2_prog_2_method_9_code_c0 rfl rfl
theorem wb12m2_prog_2_method_9_code_c2 : wt_cs prog_2_method_9_code 57 wb12m2_prog_2_method_9_code_r2 := wt_cs_tl (m := 28) wb12m2_prog_2_method_9_code_c1 rfl rfl
theorem wb12m2_prog_2_method_9_code_c3 : wt_cs prog_2_method_9_code 87 wb12m2_prog_2_method_9_code_r3 := wt_cs_tl (m := 30) wb12m2_prog_2_method_9_code_c2 rfl rfl
theorem wp_ld_fillPieces_d0 : decode prog_2_method_9_code 0 = .ok (.aload_n 0, 1) := wt_op42 wb12m2_prog_2_method_9_code_c0 0 rfl rfl
theorem wp_ld_fillPieces_d1 : decode prog_2_method_9_code 1 = .ok (.invokevirtual 113, 3) := wt_op182 wb12m2_prog_2_method_9_code_c0 1 rfl rfl rfl
theorem wp_ld_fillPieces_d4 : decode prog_2_method_9_code 4 = .ok (.istore_n 3, 1) := wt_op62 wb12m2_prog_2_method_9_code_c0 4 rfl rfl
theorem wp_ld_fillPieces_d5 : decode prog_2_method_9_code 5 = .ok (.iload_n 3, 1) := wt_op29 wb12m2_prog_2_method_9_code_c0 5 rfl rfl
theorem wp_ld_fillPieces_d6 : decode prog_2_method_9_code 6 = .ok (.iconst (-1), 1) := wt_op2 wb12m2_prog_2_method_9_code_c0 6 rfl rfl
theorem wp_ld_fillPieces_d7 : decode prog_2_method_9_code 7 = .ok (.if_icmp .ne 5, 3) := wt_op160 wb12m2_prog_2_method_9_code_c0 7 rfl rfl rfl
theorem wp_ld_fillPieces_d10 : decode prog_2_method_9_code 10 = .ok (.iconst 0, 1) := wt_op3 wb12m2_prog_2_method_9_code_c0 10 rfl rfl
theorem wp_ld_fillPieces_d11 : decode prog_2_method_9_code 11 = .ok (.ireturn, 1) := wt_op172 wb12m2_prog_2_method_9_code_c0 11 rfl rfl
theorem wp_ld_fillPieces_d12 : decode prog_2_method_9_code 12 = .ok (.aload_n 1, 1) := wt_op43 wb12m2_prog_2_method_9_code_c0 12 rfl rfl
theorem wp_ld_fillPieces_d13 : decode prog_2_method_9_code 13 = .ok (.iload_n 3, 1) := wt_op29 wb12m2_prog_2_method_9_code_c0 13 rfl rfl
theorem wp_ld_fillPieces_d14 : decode prog_2_method_9_code 14 = .ok (.invokestatic 44, 3) := wt_op184 wb12m2_prog_2_method_9_code_c0 14 rfl rfl rfl
theorem wp_ld_fillPieces_d17 : decode prog_2_method_9_code 17 = .ok (.istore 4, 2) := wt_op54 wb12m2_prog_2_method_9_code_c0 17 rfl rfl
theorem wp_ld_fillPieces_d19 : decode prog_2_method_9_code 19 = .ok (.aload_n 0, 1) := wt_op42 wb12m2_prog_2_method_9_code_c0 19 rfl rfl
theorem wp_ld_fillPieces_d20 : decode prog_2_method_9_code 20 = .ok (.iconst 1, 1) := wt_op4 wb12m2_prog_2_method_9_code_c0 20 rfl rfl
theorem wp_ld_fillPieces_d21 : decode prog_2_method_9_code 21 = .ok (.bipush 12, 2) := wt_op16 wb12m2_prog_2_method_9_code_c0 21 rfl rfl rfl
theorem wp_ld_fillPieces_d23 : decode prog_2_method_9_code 23 = .ok (.iload 4, 2) := wt_op21 wb12m2_prog_2_method_9_code_c0 23 rfl rfl
theorem wp_ld_fillPieces_d25 : decode prog_2_method_9_code 25 = .ok (.isub, 1) := wt_op100 wb12m2_prog_2_method_9_code_c0 25 rfl rfl
theorem wp_ld_fillPieces_d26 : decode prog_2_method_9_code 26 = .ok (.invokevirtual 117, 3) := wt_op182 wb12m2_prog_2_method_9_code_c0 26 rfl rfl rfl
theorem wp_ld_fillPieces_d29 : decode prog_2_method_9_code 29 = .ok (.istore 5, 2) := wt_op54 wb12m2_prog_2_method_9_code_c1 0 rfl rfl
theorem wp_ld_fillPieces_d31 : decode prog_2_method_9_code 31 = .ok (.iload 5, 2) := wt_op21 wb12m2_prog_2_method_9_code_c1 2 rfl rfl
theorem wp_ld_fillPieces_d33 : decode prog_2_method_9_code 33 = .ok (.iconst (-1), 1) := wt_op2 wb12m2_prog_2_method_9_code_c1 4 rfl rfl
theorem wp_ld_fillPieces_d34 : decode prog_2_method_9_code 34 = .ok (.if_icmp .ne 5, 3) := wt_op160 wb12m2_prog_2_method_9_code_c1 5 rfl rfl rfl
theorem wp_ld_fillPieces_d37 : decode prog_2_method_9_code 37 = .ok (.iconst 0, 1) := wt_op3 wb12m2_prog_2_method_9_code_c1 8 rfl rfl
theorem wp_ld_fillPieces_d38 : decode prog_2_method_9_code 38 = .ok (.ireturn, 1) := wt_op172 wb12m2_prog_2_method_9_code_c1 9 rfl rfl
theorem wp_ld_fillPieces_d39 : decode prog_2_method_9_code 39 = .ok (.aload_n 0, 1) := wt_op42 wb12m2_prog_2_method_9_code_c1 10 rfl rfl
theorem wp_ld_fillPieces_d40 : decode prog_2_method_9_code 40 = .ok (.iconst 1, 1) := wt_op4 wb12m2_prog_2_method_9_code_c1 11 rfl rfl
theorem wp_ld_fillPieces_d41 : decode prog_2_method_9_code 41 = .ok (.sipush 400, 3) := wt_op17 wb12m2_prog_2_method_9_code_c1 12 rfl rfl rfl
theorem wp_ld_fillPieces_d44 : decode prog_2_method_9_code 44 = .ok (.invokevirtual 117, 3) := wt_op182 wb12m2_prog_2_method_9_code_c1 15 rfl rfl rfl
theorem wp_ld_fillPieces_d47 : decode prog_2_method_9_code 47 = .ok (.istore 6, 2) := wt_op54 wb12m2_prog_2_method_9_code_c1 18 rfl rfl
theorem wp_ld_fillPieces_d49 : decode prog_2_method_9_code 49 = .ok (.iload 6, 2) := wt_op21 wb12m2_prog_2_method_9_code_c1 20 rfl rfl
theorem wp_ld_fillPieces_d51 : decode prog_2_method_9_code 51 = .ok (.iconst (-1), 1) := wt_op2 wb12m2_prog_2_method_9_code_c1 22 rfl rfl
theorem wp_ld_fillPieces_d52 : decode prog_2_method_9_code 52 = .ok (.if_icmp .ne 5, 3) := wt_op160 wb12m2_prog_2_method_9_code_c1 23 rfl rfl rfl
theorem wp_ld_fillPieces_d55 : decode prog_2_method_9_code 55 = .ok (.iconst 0, 1) := wt_op3 wb12m2_prog_2_method_9_code_c1 26 rfl rfl
theorem wp_ld_fillPieces_d56 : decode prog_2_method_9_code 56 = .ok (.ireturn, 1) := wt_op172 wb12m2_prog_2_method_9_code_c1 27 rfl rfl
theorem wp_ld_fillPieces_d57 : decode prog_2_method_9_code 57 = .ok (.iload 4, 2) := wt_op21 wb12m2_prog_2_method_9_code_c2 0 rfl rfl
theorem wp_ld_fillPieces_d59 : decode prog_2_method_9_code 59 = .ok (.istore 7, 2) := wt_op54 wb12m2_prog_2_method_9_code_c2 2 rfl rfl
theorem wp_ld_fillPieces_d61 : decode prog_2_method_9_code 61 = .ok (.iload 7, 2) := wt_op21 wb12m2_prog_2_method_9_code_c2 4 rfl rfl
theorem wp_ld_fillPieces_d63 : decode prog_2_method_9_code 63 = .ok (.iload 4, 2) := wt_op21 wb12m2_prog_2_method_9_code_c2 6 rfl rfl
theorem wp_ld_fillPieces_d65 : decode prog_2_method_9_code 65 = .ok (.iload 5, 2) := wt_op21 wb12m2_prog_2_method_9_code_c2 8 rfl rfl
theorem wp_ld_fillPieces_d67 : decode prog_2_method_9_code 67 = .ok (.iadd, 1) := wt_op96 wb12m2_prog_2_method_9_code_c2 10 rfl rfl
theorem wp_ld_fillPieces_d68 : decode prog_2_method_9_code 68 = .ok (.if_icmp .ge 22, 3) := wt_op162 wb12m2_prog_2_method_9_code_c2 11 rfl rfl rfl
theorem wp_ld_fillPieces_d71 : decode prog_2_method_9_code 71 = .ok (.aload_n 2, 1) := wt_op44 wb12m2_prog_2_method_9_code_c2 14 rfl rfl
theorem wp_ld_fillPieces_d72 : decode prog_2_method_9_code 72 = .ok (.iload_n 3, 1) := wt_op29 wb12m2_prog_2_method_9_code_c2 15 rfl rfl
theorem wp_ld_fillPieces_d73 : decode prog_2_method_9_code 73 = .ok (.bipush 12, 2) := wt_op16 wb12m2_prog_2_method_9_code_c2 16 rfl rfl rfl
theorem wp_ld_fillPieces_d75 : decode prog_2_method_9_code 75 = .ok (.imul, 1) := wt_op104 wb12m2_prog_2_method_9_code_c2 18 rfl rfl
theorem wp_ld_fillPieces_d76 : decode prog_2_method_9_code 76 = .ok (.iload 7, 2) := wt_op21 wb12m2_prog_2_method_9_code_c2 19 rfl rfl
theorem wp_ld_fillPieces_d78 : decode prog_2_method_9_code 78 = .ok (.iadd, 1) := wt_op96 wb12m2_prog_2_method_9_code_c2 21 rfl rfl
theorem wp_ld_fillPieces_d79 : decode prog_2_method_9_code 79 = .ok (.iload 6, 2) := wt_op21 wb12m2_prog_2_method_9_code_c2 22 rfl rfl
theorem wp_ld_fillPieces_d81 : decode prog_2_method_9_code 81 = .ok (.invokestatic 120, 3) := wt_op184 wb12m2_prog_2_method_9_code_c2 24 rfl rfl rfl
theorem wp_ld_fillPieces_d84 : decode prog_2_method_9_code 84 = .ok (.iinc 7 1, 3) := wt_op132 wb12m2_prog_2_method_9_code_c2 27 rfl rfl rfl
theorem wp_ld_fillPieces_d87 : decode prog_2_method_9_code 87 = .ok (.goto (-26), 3) := wt_op167 wb12m2_prog_2_method_9_code_c3 0 rfl rfl rfl
theorem wp_ld_fillPieces_d90 : decode prog_2_method_9_code 90 = .ok (.aload_n 1, 1) := wt_op43 wb12m2_prog_2_method_9_code_c3 3 rfl rfl
theorem wp_ld_fillPieces_d91 : decode prog_2_method_9_code 91 = .ok (.iload_n 3, 1) := wt_op29 wb12m2_prog_2_method_9_code_c3 4 rfl rfl
theorem wp_ld_fillPieces_d92 : decode prog_2_method_9_code 92 = .ok (.iload 4, 2) := wt_op21 wb12m2_prog_2_method_9_code_c3 5 rfl rfl
theorem wp_ld_fillPieces_d94 : decode prog_2_method_9_code 94 = .ok (.iload 5, 2) := wt_op21 wb12m2_prog_2_method_9_code_c3 7 rfl rfl
theorem wp_ld_fillPieces_d96 : decode prog_2_method_9_code 96 = .ok (.iadd, 1) := wt_op96 wb12m2_prog_2_method_9_code_c3 9 rfl rfl
theorem wp_ld_fillPieces_d97 : decode prog_2_method_9_code 97 = .ok (.invokestatic 120, 3) := wt_op184 wb12m2_prog_2_method_9_code_c3 10 rfl rfl rfl
theorem wp_ld_fillPieces_d100 : decode prog_2_method_9_code 100 = .ok (.iconst 1, 1) := wt_op4 wb12m2_prog_2_method_9_code_c3 13 rfl rfl
theorem wp_ld_fillPieces_d101 : decode prog_2_method_9_code 101 = .ok (.ireturn, 1) := wt_op172 wb12m2_prog_2_method_9_code_c3 14 rfl rfl
noncomputable def wp_ld_fillPieces_B61 (n : Nat) (a1 : Nat) (a2 : Nat) (x3 : Int32) (x4 : Int32) (x5 : Int32) (x6 : Int32) (K61 : Int32 × wt_St → Option (Int32 × wt_St)) (s : Int32 × wt_St) : Option (Int32 × wt_St) :=
  if (x4 + x5) ≤ s.1 then
    (wp_ap_put n a1 x3 (x4 + x5) s.2).bind fun q9 =>
    some ((1 : Int32), q9)
  else
    (wp_ap_put n a2 ((x3 * (12 : Int32)) + s.1) x6 s.2).bind fun q10 =>
    K61 ((s.1 + (1 : Int32)), q10)
set_option maxRecDepth 100000 in
set_option maxHeartbeats 4000000 in
theorem wp_ld_fillPieces_B61_ok  {a1 : Nat} {a2 : Nat} {x3 : Int32} {x4 : Int32} {x5 : Int32} {x6 : Int32} {X : wt_X} {n : Nat} {res : Int32 × wt_St} (hE : wt_Ok X prog_2_method_9_code 8 "WornType$Lead" 4 0) (hR : wt_Rt X (some .boolean) (some res.1) res.2) (hD : ∀ i, i < 108 → wt_dom (wt_xw X) i) (hA_a1 : wt_LAY[a1]? = some (0, wt_ln a1, [])) (hd_a1 : wt_dom (wt_xw X) a1) (hA_a2 : wt_LAY[a2]? = some (0, wt_ln a2, [])) (hd_a2 : wt_dom (wt_xw X) a2) {K61 : Int32 × wt_St → Option (Int32 × wt_St)} (hK61 : ∀ s : Int32 × wt_St, K61 s = some res → wt_V X 0 s.2 61 [some (.ref (wt_ad (wt_xw X) 1)), some (.ref (wt_ad (wt_xw X) a1)), some (.ref (wt_ad (wt_xw X) a2)), some (.int x3), some (.int x4), some (.int x5), some (.int x6), some (.int s.1)] []) {s : Int32 × wt_St} (h : wp_ld_fillPieces_B61 n a1 a2 x3 x4 x5 x6 K61 s = some res) : wt_V X 0 s.2 61 [some (.ref (wt_ad (wt_xw X) 1)), some (.ref (wt_ad (wt_xw X) a1)), some (.ref (wt_ad (wt_xw X) a2)), some (.int x3), some (.int x4), some (.int x5), some (.int x6), some (.int s.1)] [] := by
  unfold wp_ld_fillPieces_B61 at h
  refine wt_iload hE wp_ld_fillPieces_d61 rfl ?_
  refine wt_iload hE wp_ld_fillPieces_d63 rfl ?_
  refine wt_iload hE wp_ld_fillPieces_d65 rfl ?_
  refine wt_iadd hE wp_ld_fillPieces_d67 ?_
  refine wt_icmp_ge hE 90 wp_ld_fillPieces_d68 rfl (fun c8 => ?_) (fun c8 => ?_)
  · have h := wt_ip c8 h
    refine wt_aload_n hE wp_ld_fillPieces_d90 rfl ?_
    refine wt_iload_n hE wp_ld_fillPieces_d91 rfl ?_
    refine wt_iload hE wp_ld_fillPieces_d92 rfl ?_
    refine wt_iload hE wp_ld_fillPieces_d94 rfl ?_
    refine wt_iadd hE wp_ld_fillPieces_d96 ?_
    obtain ⟨q9, hq9, h⟩ := wt_bi h
    refine wt_callSv hE [.ref (wt_ad (wt_xw X) a1), .int x3, .int (x4 + x5)] wt_lm_ld_120 wt_ya_ap_put (wp_ap_put_ok (wt_lnE hA_a1) hd_a1 hq9) (by omega) rfl rfl (Nat.le_of_ble_eq_true rfl) (Nat.zero_le _) wp_ld_fillPieces_d97 ?_
    refine wt_iconst hE (1 : Int32) wp_ld_fillPieces_d100 wt_ci_1 ?_
    cases h
    exact wt_zret hE (by decide) hR wp_ld_fillPieces_d101
  · have h := wt_in c8 h
    refine wt_aload_n hE wp_ld_fillPieces_d71 rfl ?_
    refine wt_iload_n hE wp_ld_fillPieces_d72 rfl ?_
    refine wt_bipush hE (12 : Int32) wp_ld_fillPieces_d73 wt_cb_12 ?_
    refine wt_imul hE wp_ld_fillPieces_d75 ?_
    refine wt_iload hE wp_ld_fillPieces_d76 rfl ?_
    refine wt_iadd hE wp_ld_fillPieces_d78 ?_
    refine wt_iload hE wp_ld_fillPieces_d79 rfl ?_
    obtain ⟨q10, hq10, h⟩ := wt_bi h
    refine wt_callSv hE [.ref (wt_ad (wt_xw X) a2), .int ((x3 * (12 : Int32)) + s.1), .int x6] wt_lm_ld_120 wt_ya_ap_put (wp_ap_put_ok (wt_lnE hA_a2) hd_a2 hq10) (by omega) rfl rfl (Nat.le_of_ble_eq_true rfl) (Nat.zero_le _) wp_ld_fillPieces_d81 ?_
    refine wt_iinc hE (s.1 + (1 : Int32)) [some (.ref (wt_ad (wt_xw X) 1)), some (.ref (wt_ad (wt_xw X) a1)), some (.ref (wt_ad (wt_xw X) a2)), some (.int x3), some (.int x4), some (.int x5), some (.int x6), some (.int (s.1 + (1 : Int32)))] wp_ld_fillPieces_d84 (by decide) rfl rfl rfl ?_
    refine wt_goto hE 61 wp_ld_fillPieces_d87 rfl ?_
    exact hK61 ((s.1 + (1 : Int32)), q10) h
noncomputable def wp_ld_fillPieces (n : Nat) (a1 : Nat) (a2 : Nat) (σ : wt_St) : Option (Int32 × wt_St) :=
  (wp_tp_takeLetter n σ).bind fun q1 =>
  if q1.1 = (-1 : Int32) then
    some ((0 : Int32), q1.2)
  else
    (wp_ap_look n a1 q1.1 q1.2).bind fun q3 =>
    (wp_tp_takeNumber n (1 : Int32) ((12 : Int32) - q3.1) q3.2).bind fun q4 =>
    if q4.1 = (-1 : Int32) then
      some ((0 : Int32), q4.2)
    else
      (wp_tp_takeNumber n (1 : Int32) (400 : Int32) q4.2).bind fun q6 =>
      if q6.1 = (-1 : Int32) then
        some ((0 : Int32), q6.2)
      else
        wt_it (wp_ld_fillPieces_B61 n a1 a2 q1.1 q3.1 q4.1 q6.1) n (q3.1, q6.2)
set_option maxRecDepth 100000 in
set_option maxHeartbeats 4000000 in
theorem wp_ld_fillPieces_ok {l : Launch} {w : wt_E} {n : Nat} {a1 : Nat} {a2 : Nat} (hD : ∀ i, i < 108 → wt_dom w i) (hA_a1 : wt_LAY[a1]? = some (0, wt_ln a1, [])) (hd_a1 : wt_dom w a1) (hA_a2 : wt_LAY[a2]? = some (0, wt_ln a2, [])) (hd_a2 : wt_dom w a2) {σ : wt_St} {q : Int32 × wt_St} (h : wp_ld_fillPieces n a1 a2 σ = some q) : wt_Ctr l w wt_y_ld_fillPieces prog_2_method_9_code 8 (some .boolean) 4 [.ref (wt_ad w 1), .ref (wt_ad w a1), .ref (wt_ad w a2)] σ (some q.1) q.2 := by
  refine wt_ctr wt_pl_ld_fillPieces rfl (Nat.le_of_ble_eq_true rfl) [some (.ref (wt_ad w 1)), some (.ref (wt_ad w a1)), some (.ref (wt_ad w a2)), none, none, none, none, none] rfl ?_
  intro X hXl hXw hE hR
  subst hXl
  subst hXw
  have hE : wt_Ok X prog_2_method_9_code 8 "WornType$Lead" 4 0 := hE
  unfold wp_ld_fillPieces at h
  refine wt_aload_n hE wp_ld_fillPieces_d0 rfl ?_
  obtain ⟨q1, hq1, h⟩ := wt_bi h
  refine wt_callVi hE [] wt_lm_ld_113 wt_ya_tp_takeLetter (wp_tp_takeLetter_ok hD hq1) (by omega) (hD 1 (Nat.le_of_ble_eq_true rfl)) wt_L1 rfl rfl rfl (Nat.le_of_ble_eq_true rfl) (Nat.zero_le _) wp_ld_fillPieces_d1 (fun hbq1 => ?_)
  refine wt_istore_n hE [some (.ref (wt_ad (wt_xw X) 1)), some (.ref (wt_ad (wt_xw X) a1)), some (.ref (wt_ad (wt_xw X) a2)), some (.int q1.1), none, none, none, none] wp_ld_fillPieces_d4 (by decide) rfl ?_
  refine wt_iload_n hE wp_ld_fillPieces_d5 rfl ?_
  refine wt_iconst hE (-1 : Int32) wp_ld_fillPieces_d6 wt_ci_m1 ?_
  refine wt_icmp_ne hE 12 wp_ld_fillPieces_d7 rfl (fun c2 => ?_) (fun c2 => ?_)
  · have h := wt_in c2 h
    refine wt_aload_n hE wp_ld_fillPieces_d12 rfl ?_
    refine wt_iload_n hE wp_ld_fillPieces_d13 rfl ?_
    obtain ⟨q3, hq3, h⟩ := wt_bi h
    refine wt_callSi hE [.ref (wt_ad (wt_xw X) a1), .int q1.1] wt_lm_ld_44 wt_ya_ap_look (wp_ap_look_ok (wt_lnE hA_a1) hd_a1 hq3) (by omega) rfl rfl (Nat.le_of_ble_eq_true rfl) (Nat.zero_le _) wp_ld_fillPieces_d14 (fun hbq3 => ?_)
    refine wt_istore hE [some (.ref (wt_ad (wt_xw X) 1)), some (.ref (wt_ad (wt_xw X) a1)), some (.ref (wt_ad (wt_xw X) a2)), some (.int q1.1), some (.int q3.1), none, none, none] wp_ld_fillPieces_d17 (Nat.le_of_ble_eq_true rfl) rfl ?_
    refine wt_aload_n hE wp_ld_fillPieces_d19 rfl ?_
    refine wt_iconst hE (1 : Int32) wp_ld_fillPieces_d20 wt_ci_1 ?_
    refine wt_bipush hE (12 : Int32) wp_ld_fillPieces_d21 wt_cb_12 ?_
    refine wt_iload hE wp_ld_fillPieces_d23 rfl ?_
    refine wt_isub hE wp_ld_fillPieces_d25 ?_
    obtain ⟨q4, hq4, h⟩ := wt_bi h
    refine wt_callVi hE [.int (1 : Int32), .int ((12 : Int32) - q3.1)] wt_lm_ld_117 wt_ya_tp_takeNumber (wp_tp_takeNumber_ok hD hq4) (by omega) (hD 1 (Nat.le_of_ble_eq_true rfl)) wt_L1 rfl rfl rfl (Nat.le_of_ble_eq_true rfl) (Nat.zero_le _) wp_ld_fillPieces_d26 (fun hbq4 => ?_)
    refine wt_istore hE [some (.ref (wt_ad (wt_xw X) 1)), some (.ref (wt_ad (wt_xw X) a1)), some (.ref (wt_ad (wt_xw X) a2)), some (.int q1.1), some (.int q3.1), some (.int q4.1), none, none] wp_ld_fillPieces_d29 (Nat.le_of_ble_eq_true rfl) rfl ?_
    refine wt_iload hE wp_ld_fillPieces_d31 rfl ?_
    refine wt_iconst hE (-1 : Int32) wp_ld_fillPieces_d33 wt_ci_m1 ?_
    refine wt_icmp_ne hE 39 wp_ld_fillPieces_d34 rfl (fun c5 => ?_) (fun c5 => ?_)
    · have h := wt_in c5 h
      refine wt_aload_n hE wp_ld_fillPieces_d39 rfl ?_
      refine wt_iconst hE (1 : Int32) wp_ld_fillPieces_d40 wt_ci_1 ?_
      refine wt_sipush hE (400 : Int32) wp_ld_fillPieces_d41 wt_cs_400 ?_
      obtain ⟨q6, hq6, h⟩ := wt_bi h
      refine wt_callVi hE [.int (1 : Int32), .int (400 : Int32)] wt_lm_ld_117 wt_ya_tp_takeNumber (wp_tp_takeNumber_ok hD hq6) (by omega) (hD 1 (Nat.le_of_ble_eq_true rfl)) wt_L1 rfl rfl rfl (Nat.le_of_ble_eq_true rfl) (Nat.zero_le _) wp_ld_fillPieces_d44 (fun hbq6 => ?_)
      refine wt_istore hE [some (.ref (wt_ad (wt_xw X) 1)), some (.ref (wt_ad (wt_xw X) a1)), some (.ref (wt_ad (wt_xw X) a2)), some (.int q1.1), some (.int q3.1), some (.int q4.1), some (.int q6.1), none] wp_ld_fillPieces_d47 (Nat.le_of_ble_eq_true rfl) rfl ?_
      refine wt_iload hE wp_ld_fillPieces_d49 rfl ?_
      refine wt_iconst hE (-1 : Int32) wp_ld_fillPieces_d51 wt_ci_m1 ?_
      refine wt_icmp_ne hE 57 wp_ld_fillPieces_d52 rfl (fun c7 => ?_) (fun c7 => ?_)
      · have h := wt_in c7 h
        refine wt_iload hE wp_ld_fillPieces_d57 rfl ?_
        refine wt_istore hE [some (.ref (wt_ad (wt_xw X) 1)), some (.ref (wt_ad (wt_xw X) a1)), some (.ref (wt_ad (wt_xw X) a2)), some (.int q1.1), some (.int q3.1), some (.int q4.1), some (.int q6.1), some (.int q3.1)] wp_ld_fillPieces_d59 (Nat.le_of_ble_eq_true rfl) rfl ?_
        exact wt_it_ind (fun z => wt_V X 0 z.2 61 [some (.ref (wt_ad (wt_xw X) 1)), some (.ref (wt_ad (wt_xw X) a1)), some (.ref (wt_ad (wt_xw X) a2)), some (.int q1.1), some (.int q3.1), some (.int q4.1), some (.int q6.1), some (.int z.1)] []) (fun K hK z h => wp_ld_fillPieces_B61_ok hE hR hD hA_a1 hd_a1 hA_a2 hd_a2 hK h) n (q3.1, q6.2) h
      · have h := wt_ip c7 h
        refine wt_iconst hE (0 : Int32) wp_ld_fillPieces_d55 wt_ci_0 ?_
        cases h
        exact wt_zret hE (by decide) hR wp_ld_fillPieces_d56
    · have h := wt_ip c5 h
      refine wt_iconst hE (0 : Int32) wp_ld_fillPieces_d37 wt_ci_0 ?_
      cases h
      exact wt_zret hE (by decide) hR wp_ld_fillPieces_d38
  · have h := wt_ip c2 h
    refine wt_iconst hE (0 : Int32) wp_ld_fillPieces_d10 wt_ci_0 ?_
    cases h
    exact wt_zret hE (by decide) hR wp_ld_fillPieces_d11
def wb12m2_prog_2_method_10_code_r1 : List (List Nat) := [180, 0, 24, 28, 29, 184, 0, 120, 4, 172] :: []
def wb12m2_prog_2_method_10_code_r0 : List (List Nat) := [43, 182, 0, 113, 61, 28, 2, 160, 0, 5, 3, 172, 43, 3, 16, 99, 182, 0, 117, 62, 29, 2, 160, 0, 5, 3, 172, 42] :: wb12m2_prog_2_method_10_code_r1
set_option maxRecDepth 100000 in
theorem wb12m2_prog_2_method_10_code_c0 : wt_cs prog_2_method_10_code 0 wb12m2_prog_2_method_10_code_r0 := wt_cs_of (by decide +kernel)
theorem wb12m2_prog_2_method_10_code_c1 : wt_cs prog_2_method_10_code 28 wb12m2_prog_2_method_10_code_r1 := wt_cs_tl (m := 28) wb12m2_prog_2_method_10_code_c0 rfl rfl
theorem wp_ld_fillPrice_d0 : decode prog_2_method_10_code 0 = .ok (.aload_n 1, 1) := wt_op43 wb12m2_prog_2_method_10_code_c0 0 rfl rfl
theorem wp_ld_fillPrice_d1 : decode prog_2_method_10_code 1 = .ok (.invokevirtual 113, 3) := wt_op182 wb12m2_prog_2_method_10_code_c0 1 rfl rfl rfl
theorem wp_ld_fillPrice_d4 : decode prog_2_method_10_code 4 = .ok (.istore_n 2, 1) := wt_op61 wb12m2_prog_2_method_10_code_c0 4 rfl rfl
theorem wp_ld_fillPrice_d5 : decode prog_2_method_10_code 5 = .ok (.iload_n 2, 1) := wt_op28 wb12m2_prog_2_method_10_code_c0 5 rfl rfl
theorem wp_ld_fillPrice_d6 : decode prog_2_method_10_code 6 = .ok (.iconst (-1), 1) := wt_op2 wb12m2_prog_2_method_10_code_c0 6 rfl rfl
theorem wp_ld_fillPrice_d7 : decode prog_2_method_10_code 7 = .ok (.if_icmp .ne 5, 3) := wt_op160 wb12m2_prog_2_method_10_code_c0 7 rfl rfl rfl
theorem wp_ld_fillPrice_d10 : decode prog_2_method_10_code 10 = .ok (.iconst 0, 1) := wt_op3 wb12m2_prog_2_method_10_code_c0 10 rfl rfl
theorem wp_ld_fillPrice_d11 : decode prog_2_method_10_code 11 = .ok (.ireturn, 1) := wt_op172 wb12m2_prog_2_method_10_code_c0 11 rfl rfl
theorem wp_ld_fillPrice_d12 : decode prog_2_method_10_code 12 = .ok (.aload_n 1, 1) := wt_op43 wb12m2_prog_2_method_10_code_c0 12 rfl rfl
theorem wp_ld_fillPrice_d13 : decode prog_2_method_10_code 13 = .ok (.iconst 0, 1) := wt_op3 wb12m2_prog_2_method_10_code_c0 13 rfl rfl
theorem wp_ld_fillPrice_d14 : decode prog_2_method_10_code 14 = .ok (.bipush 99, 2) := wt_op16 wb12m2_prog_2_method_10_code_c0 14 rfl rfl rfl
theorem wp_ld_fillPrice_d16 : decode prog_2_method_10_code 16 = .ok (.invokevirtual 117, 3) := wt_op182 wb12m2_prog_2_method_10_code_c0 16 rfl rfl rfl
theorem wp_ld_fillPrice_d19 : decode prog_2_method_10_code 19 = .ok (.istore_n 3, 1) := wt_op62 wb12m2_prog_2_method_10_code_c0 19 rfl rfl
theorem wp_ld_fillPrice_d20 : decode prog_2_method_10_code 20 = .ok (.iload_n 3, 1) := wt_op29 wb12m2_prog_2_method_10_code_c0 20 rfl rfl
theorem wp_ld_fillPrice_d21 : decode prog_2_method_10_code 21 = .ok (.iconst (-1), 1) := wt_op2 wb12m2_prog_2_method_10_code_c0 21 rfl rfl
theorem wp_ld_fillPrice_d22 : decode prog_2_method_10_code 22 = .ok (.if_icmp .ne 5, 3) := wt_op160 wb12m2_prog_2_method_10_code_c0 22 rfl rfl rfl
theorem wp_ld_fillPrice_d25 : decode prog_2_method_10_code 25 = .ok (.iconst 0, 1) := wt_op3 wb12m2_prog_2_method_10_code_c0 25 rfl rfl
theorem wp_ld_fillPrice_d26 : decode prog_2_method_10_code 26 = .ok (.ireturn, 1) := wt_op172 wb12m2_prog_2_method_10_code_c0 26 rfl rfl
theorem wp_ld_fillPrice_d27 : decode prog_2_method_10_code 27 = .ok (.aload_n 0, 1) := wt_op42 wb12m2_prog_2_method_10_code_c0 27 rfl rfl
theorem wp_ld_fillPrice_d28 : decode prog_2_method_10_code 28 = .ok (.getfield 24, 3) := wt_op180 wb12m2_prog_2_method_10_code_c1 0 rfl rfl rfl
theorem wp_ld_fillPrice_d31 : decode prog_2_method_10_code 31 = .ok (.iload_n 2, 1) := wt_op28 wb12m2_prog_2_method_10_code_c1 3 rfl rfl
theorem wp_ld_fillPrice_d32 : decode prog_2_method_10_code 32 = .ok (.iload_n 3, 1) := wt_op29 wb12m2_prog_2_method_10_code_c1 4 rfl rfl
theorem wp_ld_fillPrice_d33 : decode prog_2_method_10_code 33 = .ok (.invokestatic 120, 3) := wt_op184 wb12m2_prog_2_method_10_code_c1 5 rfl rfl rfl
theorem wp_ld_fillPrice_d36 : decode prog_2_method_10_code 36 = .ok (.iconst 1, 1) := wt_op4 wb12m2_prog_2_method_10_code_c1 8 rfl rfl
theorem wp_ld_fillPrice_d37 : decode prog_2_method_10_code 37 = .ok (.ireturn, 1) := wt_op172 wb12m2_prog_2_method_10_code_c1 9 rfl rfl
noncomputable def wp_ld_fillPrice (n : Nat) (t0 : Nat) (σ : wt_St) : Option (Int32 × wt_St) :=
  (wp_tp_takeLetter n σ).bind fun q1 =>
  if q1.1 = (-1 : Int32) then
    some ((0 : Int32), q1.2)
  else
    (wp_tp_takeNumber n (0 : Int32) (99 : Int32) q1.2).bind fun q3 =>
    if q3.1 = (-1 : Int32) then
      some ((0 : Int32), q3.2)
    else
      (wp_ap_put n (t0 + 5) q1.1 q3.1 q3.2).bind fun q5 =>
      some ((1 : Int32), q5)
set_option maxRecDepth 100000 in
set_option maxHeartbeats 4000000 in
theorem wp_ld_fillPrice_ok {l : Launch} {w : wt_E} {n : Nat} {t0 : Nat} (hD : ∀ i, i < 108 → wt_dom w i) (hI_t0 : wt_isLead t0) (hT_t0 : ∀ j, j < 8 → wt_dom w (t0 + j)) {σ : wt_St} {q : Int32 × wt_St} (h : wp_ld_fillPrice n t0 σ = some q) : wt_Ctr l w wt_y_ld_fillPrice prog_2_method_10_code 4 (some .boolean) 4 [.ref (wt_ad w t0), .ref (wt_ad w 1)] σ (some q.1) q.2 := by
  refine wt_ctr wt_pl_ld_fillPrice rfl (Nat.le_of_ble_eq_true rfl) [some (.ref (wt_ad w t0)), some (.ref (wt_ad w 1)), none, none] rfl ?_
  intro X hXl hXw hE hR
  subst hXl
  subst hXw
  have hE : wt_Ok X prog_2_method_10_code 4 "WornType$Lead" 4 0 := hE
  unfold wp_ld_fillPrice at h
  refine wt_aload_n hE wp_ld_fillPrice_d0 rfl ?_
  obtain ⟨q1, hq1, h⟩ := wt_bi h
  refine wt_callVi hE [] wt_lm_ld_113 wt_ya_tp_takeLetter (wp_tp_takeLetter_ok hD hq1) (by omega) (hD 1 (Nat.le_of_ble_eq_true rfl)) wt_L1 rfl rfl rfl (Nat.le_of_ble_eq_true rfl) (Nat.zero_le _) wp_ld_fillPrice_d1 (fun hbq1 => ?_)
  refine wt_istore_n hE [some (.ref (wt_ad (wt_xw X) t0)), some (.ref (wt_ad (wt_xw X) 1)), some (.int q1.1), none] wp_ld_fillPrice_d4 (by decide) rfl ?_
  refine wt_iload_n hE wp_ld_fillPrice_d5 rfl ?_
  refine wt_iconst hE (-1 : Int32) wp_ld_fillPrice_d6 wt_ci_m1 ?_
  refine wt_icmp_ne hE 12 wp_ld_fillPrice_d7 rfl (fun c2 => ?_) (fun c2 => ?_)
  · have h := wt_in c2 h
    refine wt_aload_n hE wp_ld_fillPrice_d12 rfl ?_
    refine wt_iconst hE (0 : Int32) wp_ld_fillPrice_d13 wt_ci_0 ?_
    refine wt_bipush hE (99 : Int32) wp_ld_fillPrice_d14 wt_cb_99 ?_
    obtain ⟨q3, hq3, h⟩ := wt_bi h
    refine wt_callVi hE [.int (0 : Int32), .int (99 : Int32)] wt_lm_ld_117 wt_ya_tp_takeNumber (wp_tp_takeNumber_ok hD hq3) (by omega) (hD 1 (Nat.le_of_ble_eq_true rfl)) wt_L1 rfl rfl rfl (Nat.le_of_ble_eq_true rfl) (Nat.zero_le _) wp_ld_fillPrice_d16 (fun hbq3 => ?_)
    refine wt_istore_n hE [some (.ref (wt_ad (wt_xw X) t0)), some (.ref (wt_ad (wt_xw X) 1)), some (.int q1.1), some (.int q3.1)] wp_ld_fillPrice_d19 (by decide) rfl ?_
    refine wt_iload_n hE wp_ld_fillPrice_d20 rfl ?_
    refine wt_iconst hE (-1 : Int32) wp_ld_fillPrice_d21 wt_ci_m1 ?_
    refine wt_icmp_ne hE 27 wp_ld_fillPrice_d22 rfl (fun c4 => ?_) (fun c4 => ?_)
    · have h := wt_in c4 h
      refine wt_aload_n hE wp_ld_fillPrice_d27 rfl ?_
      refine wt_getr hE (r := (t0 + 5)) wt_lf_ld_24 (hT_t0 0 (Nat.le_of_ble_eq_true rfl)) (hI_t0.1) rfl wp_ld_fillPrice_d28 ?_
      refine wt_iload_n hE wp_ld_fillPrice_d31 rfl ?_
      refine wt_iload_n hE wp_ld_fillPrice_d32 rfl ?_
      obtain ⟨q5, hq5, h⟩ := wt_bi h
      refine wt_callSv hE [.ref (wt_ad (wt_xw X) ((t0 + 5))), .int q1.1, .int q3.1] wt_lm_ld_120 wt_ya_ap_put (wp_ap_put_ok (wt_lnE (wt_isLead_L5 hI_t0)) (hT_t0 5 (Nat.le_of_ble_eq_true rfl)) hq5) (by omega) rfl rfl (Nat.le_of_ble_eq_true rfl) (Nat.zero_le _) wp_ld_fillPrice_d33 ?_
      refine wt_iconst hE (1 : Int32) wp_ld_fillPrice_d36 wt_ci_1 ?_
      cases h
      exact wt_zret hE (by decide) hR wp_ld_fillPrice_d37
    · have h := wt_ip c4 h
      refine wt_iconst hE (0 : Int32) wp_ld_fillPrice_d25 wt_ci_0 ?_
      cases h
      exact wt_zret hE (by decide) hR wp_ld_fillPrice_d26
  · have h := wt_ip c2 h
    refine wt_iconst hE (0 : Int32) wp_ld_fillPrice_d10 wt_ci_0 ?_
    cases h
    exact wt_zret hE (by decide) hR wp_ld_fillPrice_d11
def wb12m2_prog_7_method_7_code_r1 : List (List Nat) := [180, 0, 35, 28, 96, 184, 0, 44, 43, 28, 182, 0, 64, 159, 0, 5, 3, 172, 132, 2, 1, 167, 255, 222, 4, 172] :: []
def wb12m2_prog_7_method_7_code_r0 : List (List Nat) := [42, 182, 0, 55, 43, 182, 0, 59, 159, 0, 5, 3, 172, 3, 61, 28, 43, 182, 0, 59, 162, 0, 32, 42, 180, 0, 9, 42] :: wb12m2_prog_7_method_7_code_r1
set_option maxRecDepth 100000 in
theorem wb12m2_prog_7_method_7_code_c0 : wt_cs prog_7_method_7_code 0 wb12m2_prog_7_method_7_code_r0 := wt_cs_of (by decide +kernel)
theorem wb12m2_prog_7_method_7_code_c1 : wt_cs prog_7_method_7_code 28 wb12m2_prog_7_method_7_code_r1 := wt_cs_tl (m := 28) wb12m2_prog_7_method_7_code_c0 rfl rfl
theorem wp_tp_wordIs_d0 : decode prog_7_method_7_code 0 = .ok (.aload_n 0, 1) := wt_op42 wb12m2_prog_7_method_7_code_c0 0 rfl rfl
theorem wp_tp_wordIs_d1 : decode prog_7_method_7_code 1 = .ok (.invokevirtual 55, 3) := wt_op182 wb12m2_prog_7_method_7_code_c0 1 rfl rfl rfl
theorem wp_tp_wordIs_d4 : decode prog_7_method_7_code 4 = .ok (.aload_n 1, 1) := wt_op43 wb12m2_prog_7_method_7_code_c0 4 rfl rfl
theorem wp_tp_wordIs_d5 : decode prog_7_method_7_code 5 = .ok (.invokevirtual 59, 3) := wt_op182 wb12m2_prog_7_method_7_code_c0 5 rfl rfl rfl
theorem wp_tp_wordIs_d8 : decode prog_7_method_7_code 8 = .ok (.if_icmp .eq 5, 3) := wt_op159 wb12m2_prog_7_method_7_code_c0 8 rfl rfl rfl
theorem wp_tp_wordIs_d11 : decode prog_7_method_7_code 11 = .ok (.iconst 0, 1) := wt_op3 wb12m2_prog_7_method_7_code_c0 11 rfl rfl
theorem wp_tp_wordIs_d12 : decode prog_7_method_7_code 12 = .ok (.ireturn, 1) := wt_op172 wb12m2_prog_7_method_7_code_c0 12 rfl rfl
theorem wp_tp_wordIs_d13 : decode prog_7_method_7_code 13 = .ok (.iconst 0, 1) := wt_op3 wb12m2_prog_7_method_7_code_c0 13 rfl rfl
theorem wp_tp_wordIs_d14 : decode prog_7_method_7_code 14 = .ok (.istore_n 2, 1) := wt_op61 wb12m2_prog_7_method_7_code_c0 14 rfl rfl
theorem wp_tp_wordIs_d15 : decode prog_7_method_7_code 15 = .ok (.iload_n 2, 1) := wt_op28 wb12m2_prog_7_method_7_code_c0 15 rfl rfl
theorem wp_tp_wordIs_d16 : decode prog_7_method_7_code 16 = .ok (.aload_n 1, 1) := wt_op43 wb12m2_prog_7_method_7_code_c0 16 rfl rfl
theorem wp_tp_wordIs_d17 : decode prog_7_method_7_code 17 = .ok (.invokevirtual 59, 3) := wt_op182 wb12m2_prog_7_method_7_code_c0 17 rfl rfl rfl
theorem wp_tp_wordIs_d20 : decode prog_7_method_7_code 20 = .ok (.if_icmp .ge 32, 3) := wt_op162 wb12m2_prog_7_method_7_code_c0 20 rfl rfl rfl
theorem wp_tp_wordIs_d23 : decode prog_7_method_7_code 23 = .ok (.aload_n 0, 1) := wt_op42 wb12m2_prog_7_method_7_code_c0 23 rfl rfl
theorem wp_tp_wordIs_d24 : decode prog_7_method_7_code 24 = .ok (.getfield 9, 3) := wt_op180 wb12m2_prog_7_method_7_code_c0 24 rfl rfl rfl
theorem wp_tp_wordIs_d27 : decode prog_7_method_7_code 27 = .ok (.aload_n 0, 1) := wt_op42 wb12m2_prog_7_method_7_code_c0 27 rfl rfl
theorem wp_tp_wordIs_d28 : decode prog_7_method_7_code 28 = .ok (.getfield 35, 3) := wt_op180 wb12m2_prog_7_method_7_code_c1 0 rfl rfl rfl
theorem wp_tp_wordIs_d31 : decode prog_7_method_7_code 31 = .ok (.iload_n 2, 1) := wt_op28 wb12m2_prog_7_method_7_code_c1 3 rfl rfl
theorem wp_tp_wordIs_d32 : decode prog_7_method_7_code 32 = .ok (.iadd, 1) := wt_op96 wb12m2_prog_7_method_7_code_c1 4 rfl rfl
theorem wp_tp_wordIs_d33 : decode prog_7_method_7_code 33 = .ok (.invokestatic 44, 3) := wt_op184 wb12m2_prog_7_method_7_code_c1 5 rfl rfl rfl
theorem wp_tp_wordIs_d36 : decode prog_7_method_7_code 36 = .ok (.aload_n 1, 1) := wt_op43 wb12m2_prog_7_method_7_code_c1 8 rfl rfl
theorem wp_tp_wordIs_d37 : decode prog_7_method_7_code 37 = .ok (.iload_n 2, 1) := wt_op28 wb12m2_prog_7_method_7_code_c1 9 rfl rfl
theorem wp_tp_wordIs_d38 : decode prog_7_method_7_code 38 = .ok (.invokevirtual 64, 3) := wt_op182 wb12m2_prog_7_method_7_code_c1 10 rfl rfl rfl
theorem wp_tp_wordIs_d41 : decode prog_7_method_7_code 41 = .ok (.if_icmp .eq 5, 3) := wt_op159 wb12m2_prog_7_method_7_code_c1 13 rfl rfl rfl
theorem wp_tp_wordIs_d44 : decode prog_7_method_7_code 44 = .ok (.iconst 0, 1) := wt_op3 wb12m2_prog_7_method_7_code_c1 16 rfl rfl
theorem wp_tp_wordIs_d45 : decode prog_7_method_7_code 45 = .ok (.ireturn, 1) := wt_op172 wb12m2_prog_7_method_7_code_c1 17 rfl rfl
theorem wp_tp_wordIs_d46 : decode prog_7_method_7_code 46 = .ok (.iinc 2 1, 3) := wt_op132 wb12m2_prog_7_method_7_code_c1 18 rfl rfl rfl
theorem wp_tp_wordIs_d49 : decode prog_7_method_7_code 49 = .ok (.goto (-34), 3) := wt_op167 wb12m2_prog_7_method_7_code_c1 21 rfl rfl rfl
theorem wp_tp_wordIs_d52 : decode prog_7_method_7_code 52 = .ok (.iconst 1, 1) := wt_op4 wb12m2_prog_7_method_7_code_c1 24 rfl rfl
theorem wp_tp_wordIs_d53 : decode prog_7_method_7_code 53 = .ok (.ireturn, 1) := wt_op172 wb12m2_prog_7_method_7_code_c1 25 rfl rfl
noncomputable def wp_tp_wordIs_B15 (n : Nat) (bs1 : List Int32) (K15 : Int32 × wt_St → Option (Int32 × wt_St)) (s : Int32 × wt_St) : Option (Int32 × wt_St) :=
  if (nI bs1.length) ≤ s.1 then
    some ((1 : Int32), s.2)
  else
    (wp_ap_look n 2 ((wt_gf s.2 1 5) + s.1) s.2).bind fun q4 =>
    if s.1 < 0 ∨ bs1.length ≤ Int32.toNatClampNeg s.1 then none else
    if q4.1 = (wt_ch bs1 s.1) then
      K15 ((s.1 + (1 : Int32)), q4.2)
    else
      some ((0 : Int32), q4.2)
set_option maxRecDepth 100000 in
set_option maxHeartbeats 4000000 in
theorem wp_tp_wordIs_B15_ok  {bs1 : List Int32} {X : wt_X} {n : Nat} {res : Int32 × wt_St} (hE : wt_Ok X prog_7_method_7_code 3 "WornType$Tape" 4 0) (hR : wt_Rt X (some .boolean) (some res.1) res.2) (hD : ∀ i, i < 108 → wt_dom (wt_xw X) i) {qs1 : Nat} (hQ_bs1 : wt_At X (wt_Str qs1 bs1)) (hl_bs1 : bs1.length < 1000) {K15 : Int32 × wt_St → Option (Int32 × wt_St)} (hK15 : ∀ s : Int32 × wt_St, K15 s = some res → wt_V X 0 s.2 15 [some (.ref (wt_ad (wt_xw X) 1)), some (.ref qs1), some (.int s.1)] []) {s : Int32 × wt_St} (h : wp_tp_wordIs_B15 n bs1 K15 s = some res) : wt_V X 0 s.2 15 [some (.ref (wt_ad (wt_xw X) 1)), some (.ref qs1), some (.int s.1)] [] := by
  unfold wp_tp_wordIs_B15 at h
  refine wt_iload_n hE wp_tp_wordIs_d15 rfl ?_
  refine wt_aload_n hE wp_tp_wordIs_d16 rfl ?_
  refine wt_callQ hE (wt_Str_fx _ _) hQ_bs1 [] hQ_bs1.1 wt_lm_tp_59 wt_ya_slength (wt_j_slength hl_bs1) (by omega) rfl rfl (Nat.le_of_ble_eq_true rfl) (Nat.zero_le _) wp_tp_wordIs_d17 (fun _ => ?_)
  refine wt_icmp_ge hE 52 wp_tp_wordIs_d20 rfl (fun c3 => ?_) (fun c3 => ?_)
  · have h := wt_ip c3 h
    refine wt_iconst hE (1 : Int32) wp_tp_wordIs_d52 wt_ci_1 ?_
    cases h
    exact wt_zret hE (by decide) hR wp_tp_wordIs_d53
  · have h := wt_in c3 h
    refine wt_aload_n hE wp_tp_wordIs_d23 rfl ?_
    refine wt_getr hE (r := 2) wt_lf_tp_9 (hD 1 (Nat.le_of_ble_eq_true rfl)) wt_L1 rfl wp_tp_wordIs_d24 ?_
    refine wt_aload_n hE wp_tp_wordIs_d27 rfl ?_
    refine wt_geti hE wt_lf_tp_35 (hD 1 (Nat.le_of_ble_eq_true rfl)) wt_L1 rfl wp_tp_wordIs_d28 ?_
    refine wt_iload_n hE wp_tp_wordIs_d31 rfl ?_
    refine wt_iadd hE wp_tp_wordIs_d32 ?_
    obtain ⟨q4, hq4, h⟩ := wt_bi h
    refine wt_callSi hE [.ref (wt_ad (wt_xw X) 2), .int ((wt_gf s.2 1 5) + s.1)] wt_lm_tp_44 wt_ya_ap_look (wp_ap_look_ok (wt_lnE wt_L2) (hD 2 (Nat.le_of_ble_eq_true rfl)) hq4) (by omega) rfl rfl (Nat.le_of_ble_eq_true rfl) (Nat.zero_le _) wp_tp_wordIs_d33 (fun hbq4 => ?_)
    refine wt_aload_n hE wp_tp_wordIs_d36 rfl ?_
    refine wt_iload_n hE wp_tp_wordIs_d37 rfl ?_
    obtain ⟨g5, h⟩ := wt_gd h
    refine wt_callQ hE (wt_Str_fx _ _) hQ_bs1 [.int s.1] hQ_bs1.1 wt_lm_tp_64 wt_ya_scharAt (wt_j_scharAt (fun z => g5 (Or.inl z)) (wt_ltN g5 hl_bs1) g5) (by omega) rfl rfl (Nat.le_of_ble_eq_true rfl) (Nat.zero_le _) wp_tp_wordIs_d38 (fun _ => ?_)
    refine wt_icmp_eq hE 46 wp_tp_wordIs_d41 rfl (fun c6 => ?_) (fun c6 => ?_)
    · have h := wt_ip c6 h
      refine wt_iinc hE (s.1 + (1 : Int32)) [some (.ref (wt_ad (wt_xw X) 1)), some (.ref qs1), some (.int (s.1 + (1 : Int32)))] wp_tp_wordIs_d46 (by decide) rfl rfl rfl ?_
      refine wt_goto hE 15 wp_tp_wordIs_d49 rfl ?_
      exact hK15 ((s.1 + (1 : Int32)), q4.2) h
    · have h := wt_in c6 h
      refine wt_iconst hE (0 : Int32) wp_tp_wordIs_d44 wt_ci_0 ?_
      cases h
      exact wt_zret hE (by decide) hR wp_tp_wordIs_d45
noncomputable def wp_tp_wordIs (n : Nat) (bs1 : List Int32) (σ : wt_St) : Option (Int32 × wt_St) :=
  (wp_tp_wordLength n σ).bind fun q1 =>
  if q1.1 = (nI bs1.length) then
    wt_it (wp_tp_wordIs_B15 n bs1) n ((0 : Int32), q1.2)
  else
    some ((0 : Int32), q1.2)
set_option maxRecDepth 100000 in
set_option maxHeartbeats 4000000 in
theorem wp_tp_wordIs_ok {l : Launch} {w : wt_E} {n : Nat} {bs1 : List Int32} (hD : ∀ i, i < 108 → wt_dom w i) {qs1 : Nat} (hl_bs1 : bs1.length < 1000) {σ : wt_St} {q : Int32 × wt_St} (h : wp_tp_wordIs n bs1 σ = some q) : wt_CtrS (wt_Str qs1 bs1) l w wt_y_tp_wordIs prog_7_method_7_code 3 (some .boolean) 4 [.ref (wt_ad w 1), .ref qs1] σ (some q.1) q.2 := by
  refine wt_ctrS _ wt_pl_tp_wordIs rfl (Nat.le_of_ble_eq_true rfl) [some (.ref (wt_ad w 1)), some (.ref qs1), none] rfl ?_
  intro X hXl hXw hE hR hQ_bs1
  subst hXl
  subst hXw
  have hE : wt_Ok X prog_7_method_7_code 3 "WornType$Tape" 4 0 := hE
  unfold wp_tp_wordIs at h
  refine wt_aload_n hE wp_tp_wordIs_d0 rfl ?_
  obtain ⟨q1, hq1, h⟩ := wt_bi h
  refine wt_callVi hE [] wt_lm_tp_55 wt_ya_tp_wordLength (wp_tp_wordLength_ok hD hq1) (by omega) (hD 1 (Nat.le_of_ble_eq_true rfl)) wt_L1 rfl rfl rfl (Nat.le_of_ble_eq_true rfl) (Nat.zero_le _) wp_tp_wordIs_d1 (fun hbq1 => ?_)
  refine wt_aload_n hE wp_tp_wordIs_d4 rfl ?_
  refine wt_callQ hE (wt_Str_fx _ _) hQ_bs1 [] hQ_bs1.1 wt_lm_tp_59 wt_ya_slength (wt_j_slength hl_bs1) (by omega) rfl rfl (Nat.le_of_ble_eq_true rfl) (Nat.zero_le _) wp_tp_wordIs_d5 (fun _ => ?_)
  refine wt_icmp_eq hE 13 wp_tp_wordIs_d8 rfl (fun c2 => ?_) (fun c2 => ?_)
  · have h := wt_ip c2 h
    refine wt_iconst hE (0 : Int32) wp_tp_wordIs_d13 wt_ci_0 ?_
    refine wt_istore_n hE [some (.ref (wt_ad (wt_xw X) 1)), some (.ref qs1), some (.int (0 : Int32))] wp_tp_wordIs_d14 (by decide) rfl ?_
    exact wt_it_ind (fun z => wt_V X 0 z.2 15 [some (.ref (wt_ad (wt_xw X) 1)), some (.ref qs1), some (.int z.1)] []) (fun K hK z h => wp_tp_wordIs_B15_ok hE hR hD hQ_bs1 hl_bs1 hK h) n ((0 : Int32), q1.2) h
  · have h := wt_in c2 h
    refine wt_iconst hE (0 : Int32) wp_tp_wordIs_d11 wt_ci_0 ?_
    cases h
    exact wt_zret hE (by decide) hR wp_tp_wordIs_d12
def wb12m2_prog_2_method_8_code_r2 : List (List Nat) := [3, 172] :: []
def wb12m2_prog_2_method_8_code_r1 : List (List Nat) := [18, 99, 182, 0, 84, 154, 0, 21, 42, 18, 103, 182, 0, 84, 154, 0, 12, 42, 18, 111, 182, 0, 84, 153, 0, 7, 4, 167, 0, 4] :: wb12m2_prog_2_method_8_code_r2
def wb12m2_prog_2_method_8_code_r0 : List (List Nat) := [42, 18, 82, 182, 0, 84, 154, 0, 48, 42, 18, 92, 182, 0, 84, 154, 0, 39, 42, 18, 94, 182, 0, 84, 154, 0, 30, 42] :: wb12m2_prog_2_method_8_code_r1
set_option maxRecDepth 100000 in
theorem wb12m2_prog_2_method_8_code_c0 : wt_cs prog_2_method_8_code 0 wb12m2_prog_2_method_8_code_r0 := wt_cs_of (by decide +kernel)
theorem wb12m2_prog_2_method_8_code_c1 : wt_cs prog_2_method_8_code 28 wb12m2_prog_2_method_8_code_r1 := wt_cs_tl (m := 28) wb12m2_prog_2_method_8_code_c0 rfl rfl
theorem wb12m2_prog_2_method_8_code_c2 : wt_cs prog_2_method_8_code 58 wb12m2_prog_2_method_8_code_r2 := wt_cs_tl (m := 30) wb12m2_prog_2_method_8_code_c1 rfl rfl
theorem wp_ld_namesClause_d0 : decode prog_2_method_8_code 0 = .ok (.aload_n 0, 1) := wt_op42 wb12m2_prog_2_method_8_code_c0 0 rfl rfl
theorem wp_ld_namesClause_d1 : decode prog_2_method_8_code 1 = .ok (.ldc 82, 2) := wt_op18 wb12m2_prog_2_method_8_code_c0 1 rfl rfl
theorem wp_ld_namesClause_d3 : decode prog_2_method_8_code 3 = .ok (.invokevirtual 84, 3) := wt_op182 wb12m2_prog_2_method_8_code_c0 3 rfl rfl rfl
theorem wp_ld_namesClause_d6 : decode prog_2_method_8_code 6 = .ok (.ifCond .ne 48, 3) := wt_op154 wb12m2_prog_2_method_8_code_c0 6 rfl rfl rfl
theorem wp_ld_namesClause_d9 : decode prog_2_method_8_code 9 = .ok (.aload_n 0, 1) := wt_op42 wb12m2_prog_2_method_8_code_c0 9 rfl rfl
theorem wp_ld_namesClause_d10 : decode prog_2_method_8_code 10 = .ok (.ldc 92, 2) := wt_op18 wb12m2_prog_2_method_8_code_c0 10 rfl rfl
theorem wp_ld_namesClause_d12 : decode prog_2_method_8_code 12 = .ok (.invokevirtual 84, 3) := wt_op182 wb12m2_prog_2_method_8_code_c0 12 rfl rfl rfl
theorem wp_ld_namesClause_d15 : decode prog_2_method_8_code 15 = .ok (.ifCond .ne 39, 3) := wt_op154 wb12m2_prog_2_method_8_code_c0 15 rfl rfl rfl
theorem wp_ld_namesClause_d18 : decode prog_2_method_8_code 18 = .ok (.aload_n 0, 1) := wt_op42 wb12m2_prog_2_method_8_code_c0 18 rfl rfl
theorem wp_ld_namesClause_d19 : decode prog_2_method_8_code 19 = .ok (.ldc 94, 2) := wt_op18 wb12m2_prog_2_method_8_code_c0 19 rfl rfl
theorem wp_ld_namesClause_d21 : decode prog_2_method_8_code 21 = .ok (.invokevirtual 84, 3) := wt_op182 wb12m2_prog_2_method_8_code_c0 21 rfl rfl rfl
theorem wp_ld_namesClause_d24 : decode prog_2_method_8_code 24 = .ok (.ifCond .ne 30, 3) := wt_op154 wb12m2_prog_2_method_8_code_c0 24 rfl rfl rfl
theorem wp_ld_namesClause_d27 : decode prog_2_method_8_code 27 = .ok (.aload_n 0, 1) := wt_op42 wb12m2_prog_2_method_8_code_c0 27 rfl rfl
theorem wp_ld_namesClause_d28 : decode prog_2_method_8_code 28 = .ok (.ldc 99, 2) := wt_op18 wb12m2_prog_2_method_8_code_c1 0 rfl rfl
theorem wp_ld_namesClause_d30 : decode prog_2_method_8_code 30 = .ok (.invokevirtual 84, 3) := wt_op182 wb12m2_prog_2_method_8_code_c1 2 rfl rfl rfl
theorem wp_ld_namesClause_d33 : decode prog_2_method_8_code 33 = .ok (.ifCond .ne 21, 3) := wt_op154 wb12m2_prog_2_method_8_code_c1 5 rfl rfl rfl
theorem wp_ld_namesClause_d36 : decode prog_2_method_8_code 36 = .ok (.aload_n 0, 1) := wt_op42 wb12m2_prog_2_method_8_code_c1 8 rfl rfl
theorem wp_ld_namesClause_d37 : decode prog_2_method_8_code 37 = .ok (.ldc 103, 2) := wt_op18 wb12m2_prog_2_method_8_code_c1 9 rfl rfl
theorem wp_ld_namesClause_d39 : decode prog_2_method_8_code 39 = .ok (.invokevirtual 84, 3) := wt_op182 wb12m2_prog_2_method_8_code_c1 11 rfl rfl rfl
theorem wp_ld_namesClause_d42 : decode prog_2_method_8_code 42 = .ok (.ifCond .ne 12, 3) := wt_op154 wb12m2_prog_2_method_8_code_c1 14 rfl rfl rfl
theorem wp_ld_namesClause_d45 : decode prog_2_method_8_code 45 = .ok (.aload_n 0, 1) := wt_op42 wb12m2_prog_2_method_8_code_c1 17 rfl rfl
theorem wp_ld_namesClause_d46 : decode prog_2_method_8_code 46 = .ok (.ldc 111, 2) := wt_op18 wb12m2_prog_2_method_8_code_c1 18 rfl rfl
theorem wp_ld_namesClause_d48 : decode prog_2_method_8_code 48 = .ok (.invokevirtual 84, 3) := wt_op182 wb12m2_prog_2_method_8_code_c1 20 rfl rfl rfl
theorem wp_ld_namesClause_d51 : decode prog_2_method_8_code 51 = .ok (.ifCond .eq 7, 3) := wt_op153 wb12m2_prog_2_method_8_code_c1 23 rfl rfl rfl
theorem wp_ld_namesClause_d54 : decode prog_2_method_8_code 54 = .ok (.iconst 1, 1) := wt_op4 wb12m2_prog_2_method_8_code_c1 26 rfl rfl
theorem wp_ld_namesClause_d55 : decode prog_2_method_8_code 55 = .ok (.goto 4, 3) := wt_op167 wb12m2_prog_2_method_8_code_c1 27 rfl rfl rfl
theorem wp_ld_namesClause_d58 : decode prog_2_method_8_code 58 = .ok (.iconst 0, 1) := wt_op3 wb12m2_prog_2_method_8_code_c2 0 rfl rfl
theorem wp_ld_namesClause_d59 : decode prog_2_method_8_code 59 = .ok (.ireturn, 1) := wt_op172 wb12m2_prog_2_method_8_code_c2 1 rfl rfl
noncomputable def wp_ld_namesClause (n : Nat) (σ : wt_St) : Option (Int32 × wt_St) :=
  (wp_tp_wordIs n [108, 101, 116, 116, 101, 114] σ).bind fun q2 =>
  if q2.1 = 0 then
    (wp_tp_wordIs n [116, 104, 101, 114, 101] q2.2).bind fun q5 =>
    if q5.1 = 0 then
      (wp_tp_wordIs n [112, 114, 105, 99, 101] q5.2).bind fun q8 =>
      if q8.1 = 0 then
        (wp_tp_wordIs n [102, 97, 105, 110, 116] q8.2).bind fun q11 =>
        if q11.1 = 0 then
          (wp_tp_wordIs n [108, 105, 107, 101] q11.2).bind fun q14 =>
          if q14.1 = 0 then
            (wp_tp_wordIs n [102, 111, 108, 108, 111, 119] q14.2).bind fun q17 =>
            if q17.1 = 0 then
              some ((0 : Int32), q17.2)
            else
              some ((1 : Int32), q17.2)
          else
            some ((1 : Int32), q14.2)
        else
          some ((1 : Int32), q11.2)
      else
        some ((1 : Int32), q8.2)
    else
      some ((1 : Int32), q5.2)
  else
    some ((1 : Int32), q2.2)
set_option maxRecDepth 100000 in
set_option maxHeartbeats 4000000 in
theorem wp_ld_namesClause_ok {l : Launch} {w : wt_E} {n : Nat} (hD : ∀ i, i < 108 → wt_dom w i) {σ : wt_St} {q : Int32 × wt_St} (h : wp_ld_namesClause n σ = some q) : wt_Ctr l w wt_y_ld_namesClause prog_2_method_8_code 1 (some .boolean) 5 [.ref (wt_ad w 1)] σ (some q.1) q.2 := by
  refine wt_ctr wt_pl_ld_namesClause rfl (Nat.le_of_ble_eq_true rfl) [some (.ref (wt_ad w 1))] rfl ?_
  intro X hXl hXw hE hR
  subst hXl
  subst hXw
  have hE : wt_Ok X prog_2_method_8_code 1 "WornType$Lead" 5 0 := hE
  unfold wp_ld_namesClause at h
  refine wt_aload_n hE wp_ld_namesClause_d0 rfl ?_
  obtain ⟨a1, ra1, ta1⟩ := (wt_fxOf hE).1 _ (List.mem_of_getElem? (i := 0) rfl)
  refine wt_ldcS hE ra1 wp_ld_namesClause_d1 ?_
  obtain ⟨q2, hq2, h⟩ := wt_bi h
  refine wt_callVS (As := [.ref a1]) (r := some q2.1) hE (wt_Str_fx _ _) ta1 wt_lm_ld_84 wt_ya_tp_wordIs (wp_tp_wordIs_ok hD (by decide) hq2) (by omega) (hD 1 (Nat.le_of_ble_eq_true rfl)) wt_L1 rfl rfl rfl (Nat.le_of_ble_eq_true rfl) (Nat.zero_le _) wp_ld_namesClause_d3 (fun hbq2 => ?_)
  refine wt_if_ne hE 54 wp_ld_namesClause_d6 rfl (fun c3 => ?_) (fun c3 => ?_)
  · have h := wt_in c3 h
    refine wt_iconst hE (1 : Int32) wp_ld_namesClause_d54 wt_ci_1 ?_
    refine wt_goto hE 59 wp_ld_namesClause_d55 rfl ?_
    cases h
    exact wt_zret hE (by decide) hR wp_ld_namesClause_d59
  · have h := wt_ip c3 h
    refine wt_aload_n hE wp_ld_namesClause_d9 rfl ?_
    obtain ⟨a4, ra4, ta4⟩ := (wt_fxOf hE).1 _ (List.mem_of_getElem? (i := 1) rfl)
    refine wt_ldcS hE ra4 wp_ld_namesClause_d10 ?_
    obtain ⟨q5, hq5, h⟩ := wt_bi h
    refine wt_callVS (As := [.ref a4]) (r := some q5.1) hE (wt_Str_fx _ _) ta4 wt_lm_ld_84 wt_ya_tp_wordIs (wp_tp_wordIs_ok hD (by decide) hq5) (by omega) (hD 1 (Nat.le_of_ble_eq_true rfl)) wt_L1 rfl rfl rfl (Nat.le_of_ble_eq_true rfl) (Nat.zero_le _) wp_ld_namesClause_d12 (fun hbq5 => ?_)
    refine wt_if_ne hE 54 wp_ld_namesClause_d15 rfl (fun c6 => ?_) (fun c6 => ?_)
    · have h := wt_in c6 h
      refine wt_iconst hE (1 : Int32) wp_ld_namesClause_d54 wt_ci_1 ?_
      refine wt_goto hE 59 wp_ld_namesClause_d55 rfl ?_
      cases h
      exact wt_zret hE (by decide) hR wp_ld_namesClause_d59
    · have h := wt_ip c6 h
      refine wt_aload_n hE wp_ld_namesClause_d18 rfl ?_
      obtain ⟨a7, ra7, ta7⟩ := (wt_fxOf hE).1 _ (List.mem_of_getElem? (i := 2) rfl)
      refine wt_ldcS hE ra7 wp_ld_namesClause_d19 ?_
      obtain ⟨q8, hq8, h⟩ := wt_bi h
      refine wt_callVS (As := [.ref a7]) (r := some q8.1) hE (wt_Str_fx _ _) ta7 wt_lm_ld_84 wt_ya_tp_wordIs (wp_tp_wordIs_ok hD (by decide) hq8) (by omega) (hD 1 (Nat.le_of_ble_eq_true rfl)) wt_L1 rfl rfl rfl (Nat.le_of_ble_eq_true rfl) (Nat.zero_le _) wp_ld_namesClause_d21 (fun hbq8 => ?_)
      refine wt_if_ne hE 54 wp_ld_namesClause_d24 rfl (fun c9 => ?_) (fun c9 => ?_)
      · have h := wt_in c9 h
        refine wt_iconst hE (1 : Int32) wp_ld_namesClause_d54 wt_ci_1 ?_
        refine wt_goto hE 59 wp_ld_namesClause_d55 rfl ?_
        cases h
        exact wt_zret hE (by decide) hR wp_ld_namesClause_d59
      · have h := wt_ip c9 h
        refine wt_aload_n hE wp_ld_namesClause_d27 rfl ?_
        obtain ⟨a10, ra10, ta10⟩ := (wt_fxOf hE).1 _ (List.mem_of_getElem? (i := 3) rfl)
        refine wt_ldcS hE ra10 wp_ld_namesClause_d28 ?_
        obtain ⟨q11, hq11, h⟩ := wt_bi h
        refine wt_callVS (As := [.ref a10]) (r := some q11.1) hE (wt_Str_fx _ _) ta10 wt_lm_ld_84 wt_ya_tp_wordIs (wp_tp_wordIs_ok hD (by decide) hq11) (by omega) (hD 1 (Nat.le_of_ble_eq_true rfl)) wt_L1 rfl rfl rfl (Nat.le_of_ble_eq_true rfl) (Nat.zero_le _) wp_ld_namesClause_d30 (fun hbq11 => ?_)
        refine wt_if_ne hE 54 wp_ld_namesClause_d33 rfl (fun c12 => ?_) (fun c12 => ?_)
        · have h := wt_in c12 h
          refine wt_iconst hE (1 : Int32) wp_ld_namesClause_d54 wt_ci_1 ?_
          refine wt_goto hE 59 wp_ld_namesClause_d55 rfl ?_
          cases h
          exact wt_zret hE (by decide) hR wp_ld_namesClause_d59
        · have h := wt_ip c12 h
          refine wt_aload_n hE wp_ld_namesClause_d36 rfl ?_
          obtain ⟨a13, ra13, ta13⟩ := (wt_fxOf hE).1 _ (List.mem_of_getElem? (i := 4) rfl)
          refine wt_ldcS hE ra13 wp_ld_namesClause_d37 ?_
          obtain ⟨q14, hq14, h⟩ := wt_bi h
          refine wt_callVS (As := [.ref a13]) (r := some q14.1) hE (wt_Str_fx _ _) ta13 wt_lm_ld_84 wt_ya_tp_wordIs (wp_tp_wordIs_ok hD (by decide) hq14) (by omega) (hD 1 (Nat.le_of_ble_eq_true rfl)) wt_L1 rfl rfl rfl (Nat.le_of_ble_eq_true rfl) (Nat.zero_le _) wp_ld_namesClause_d39 (fun hbq14 => ?_)
          refine wt_if_ne hE 54 wp_ld_namesClause_d42 rfl (fun c15 => ?_) (fun c15 => ?_)
          · have h := wt_in c15 h
            refine wt_iconst hE (1 : Int32) wp_ld_namesClause_d54 wt_ci_1 ?_
            refine wt_goto hE 59 wp_ld_namesClause_d55 rfl ?_
            cases h
            exact wt_zret hE (by decide) hR wp_ld_namesClause_d59
          · have h := wt_ip c15 h
            refine wt_aload_n hE wp_ld_namesClause_d45 rfl ?_
            obtain ⟨a16, ra16, ta16⟩ := (wt_fxOf hE).1 _ (List.mem_of_getElem? (i := 5) rfl)
            refine wt_ldcS hE ra16 wp_ld_namesClause_d46 ?_
            obtain ⟨q17, hq17, h⟩ := wt_bi h
            refine wt_callVS (As := [.ref a16]) (r := some q17.1) hE (wt_Str_fx _ _) ta16 wt_lm_ld_84 wt_ya_tp_wordIs (wp_tp_wordIs_ok hD (by decide) hq17) (by omega) (hD 1 (Nat.le_of_ble_eq_true rfl)) wt_L1 rfl rfl rfl (Nat.le_of_ble_eq_true rfl) (Nat.zero_le _) wp_ld_namesClause_d48 (fun hbq17 => ?_)
            refine wt_if_eq hE 58 wp_ld_namesClause_d51 rfl (fun c18 => ?_) (fun c18 => ?_)
            · have h := wt_ip c18 h
              refine wt_iconst hE (0 : Int32) wp_ld_namesClause_d58 wt_ci_0 ?_
              cases h
              exact wt_zret hE (by decide) hR wp_ld_namesClause_d59
            · have h := wt_in c18 h
              refine wt_iconst hE (1 : Int32) wp_ld_namesClause_d54 wt_ci_1 ?_
              refine wt_goto hE 59 wp_ld_namesClause_d55 rfl ?_
              cases h
              exact wt_zret hE (by decide) hR wp_ld_namesClause_d59
def wb12m2_prog_2_method_7_code_r4 : List (List Nat) := [153, 0, 11, 42, 43, 182, 0, 105, 167, 0, 8, 42, 43, 182, 0, 108, 172] :: []
def wb12m2_prog_2_method_7_code_r3 : List (List Nat) := [153, 0, 9, 42, 43, 182, 0, 96, 172, 43, 18, 99, 182, 0, 84, 153, 0, 9, 42, 43, 182, 0, 100, 172, 43, 18, 103, 182, 0, 84] :: wb12m2_prog_2_method_7_code_r4
def wb12m2_prog_2_method_7_code_r2 : List (List Nat) := [43, 18, 92, 182, 0, 84, 153, 0, 16, 43, 42, 180, 0, 18, 42, 180, 0, 21, 184, 0, 88, 172, 43, 18, 94, 182, 0, 84] :: wb12m2_prog_2_method_7_code_r3
def wb12m2_prog_2_method_7_code_r1 : List (List Nat) := [43, 6, 182, 0, 79, 172, 43, 18, 82, 182, 0, 84, 153, 0, 16, 43, 42, 180, 0, 9, 42, 180, 0, 15, 184, 0, 88, 172] :: wb12m2_prog_2_method_7_code_r2
def wb12m2_prog_2_method_7_code_r0 : List (List Nat) := [43, 182, 0, 72, 154, 0, 5, 3, 172, 43, 184, 0, 75, 154, 0, 9, 43, 4, 182, 0, 79, 172, 28, 16, 60, 161, 0, 9] :: wb12m2_prog_2_method_7_code_r1
set_option maxRecDepth 100000 in
theorem wb12m2_prog_2_method_7_code_c0 : wt_cs prog_2_method_7_code 0 wb12m2_prog_2_method_7_code_r0 := wt_cs_of (by decide +kernel)
theorem wb12m2_prog_2_method_7_code_c1 : wt_cs prog_2_method_7_code 28 wb12m2_prog_2_method_7_code_r1 := wt_cs_tl (m := 28) wb12m2_prog_2_method_7_code_c0 rfl rfl
theorem wb12m2_prog_2_method_7_code_c2 : wt_cs prog_2_method_7_code 56 wb12m2_prog_2_method_7_code_r2 := wt_cs_tl (m := 28) wb12m2_prog_2_method_7_code_c1 rfl rfl
theorem wb12m2_prog_2_method_7_code_c3 : wt_cs prog_2_method_7_code 84 wb12m2_prog_2_method_7_code_r3 := wt_cs_tl (m := 28) wb12m2_prog_2_method_7_code_c2 rfl rfl
theorem wb12m2_prog_2_method_7_code_c4 : wt_cs prog_2_method_7_code 114 wb12m2_prog_2_method_7_code_r4 := wt_cs_tl (m := 30) wb12m2_prog_2_method_7_code_c3 rfl rfl
theorem wp_ld_fillClause_d0 : decode prog_2_method_7_code 0 = .ok (.aload_n 1, 1) := wt_op43 wb12m2_prog_2_method_7_code_c0 0 rfl rfl
theorem wp_ld_fillClause_d1 : decode prog_2_method_7_code 1 = .ok (.invokevirtual 72, 3) := wt_op182 wb12m2_prog_2_method_7_code_c0 1 rfl rfl rfl
theorem wp_ld_fillClause_d4 : decode prog_2_method_7_code 4 = .ok (.ifCond .ne 5, 3) := wt_op154 wb12m2_prog_2_method_7_code_c0 4 rfl rfl rfl
theorem wp_ld_fillClause_d7 : decode prog_2_method_7_code 7 = .ok (.iconst 0, 1) := wt_op3 wb12m2_prog_2_method_7_code_c0 7 rfl rfl
theorem wp_ld_fillClause_d8 : decode prog_2_method_7_code 8 = .ok (.ireturn, 1) := wt_op172 wb12m2_prog_2_method_7_code_c0 8 rfl rfl
theorem wp_ld_fillClause_d9 : decode prog_2_method_7_code 9 = .ok (.aload_n 1, 1) := wt_op43 wb12m2_prog_2_method_7_code_c0 9 rfl rfl
theorem wp_ld_fillClause_d10 : decode prog_2_method_7_code 10 = .ok (.invokestatic 75, 3) := wt_op184 wb12m2_prog_2_method_7_code_c0 10 rfl rfl rfl
theorem wp_ld_fillClause_d13 : decode prog_2_method_7_code 13 = .ok (.ifCond .ne 9, 3) := wt_op154 wb12m2_prog_2_method_7_code_c0 13 rfl rfl rfl
theorem wp_ld_fillClause_d16 : decode prog_2_method_7_code 16 = .ok (.aload_n 1, 1) := wt_op43 wb12m2_prog_2_method_7_code_c0 16 rfl rfl
theorem wp_ld_fillClause_d17 : decode prog_2_method_7_code 17 = .ok (.iconst 1, 1) := wt_op4 wb12m2_prog_2_method_7_code_c0 17 rfl rfl
theorem wp_ld_fillClause_d18 : decode prog_2_method_7_code 18 = .ok (.invokevirtual 79, 3) := wt_op182 wb12m2_prog_2_method_7_code_c0 18 rfl rfl rfl
theorem wp_ld_fillClause_d21 : decode prog_2_method_7_code 21 = .ok (.ireturn, 1) := wt_op172 wb12m2_prog_2_method_7_code_c0 21 rfl rfl
theorem wp_ld_fillClause_d22 : decode prog_2_method_7_code 22 = .ok (.iload_n 2, 1) := wt_op28 wb12m2_prog_2_method_7_code_c0 22 rfl rfl
theorem wp_ld_fillClause_d23 : decode prog_2_method_7_code 23 = .ok (.bipush 60, 2) := wt_op16 wb12m2_prog_2_method_7_code_c0 23 rfl rfl rfl
theorem wp_ld_fillClause_d25 : decode prog_2_method_7_code 25 = .ok (.if_icmp .lt 9, 3) := wt_op161 wb12m2_prog_2_method_7_code_c0 25 rfl rfl rfl
theorem wp_ld_fillClause_d28 : decode prog_2_method_7_code 28 = .ok (.aload_n 1, 1) := wt_op43 wb12m2_prog_2_method_7_code_c1 0 rfl rfl
theorem wp_ld_fillClause_d29 : decode prog_2_method_7_code 29 = .ok (.iconst 3, 1) := wt_op6 wb12m2_prog_2_method_7_code_c1 1 rfl rfl
theorem wp_ld_fillClause_d30 : decode prog_2_method_7_code 30 = .ok (.invokevirtual 79, 3) := wt_op182 wb12m2_prog_2_method_7_code_c1 2 rfl rfl rfl
theorem wp_ld_fillClause_d33 : decode prog_2_method_7_code 33 = .ok (.ireturn, 1) := wt_op172 wb12m2_prog_2_method_7_code_c1 5 rfl rfl
theorem wp_ld_fillClause_d34 : decode prog_2_method_7_code 34 = .ok (.aload_n 1, 1) := wt_op43 wb12m2_prog_2_method_7_code_c1 6 rfl rfl
theorem wp_ld_fillClause_d35 : decode prog_2_method_7_code 35 = .ok (.ldc 82, 2) := wt_op18 wb12m2_prog_2_method_7_code_c1 7 rfl rfl
theorem wp_ld_fillClause_d37 : decode prog_2_method_7_code 37 = .ok (.invokevirtual 84, 3) := wt_op182 wb12m2_prog_2_method_7_code_c1 9 rfl rfl rfl
theorem wp_ld_fillClause_d40 : decode prog_2_method_7_code 40 = .ok (.ifCond .eq 16, 3) := wt_op153 wb12m2_prog_2_method_7_code_c1 12 rfl rfl rfl
theorem wp_ld_fillClause_d43 : decode prog_2_method_7_code 43 = .ok (.aload_n 1, 1) := wt_op43 wb12m2_prog_2_method_7_code_c1 15 rfl rfl
theorem wp_ld_fillClause_d44 : decode prog_2_method_7_code 44 = .ok (.aload_n 0, 1) := wt_op42 wb12m2_prog_2_method_7_code_c1 16 rfl rfl
theorem wp_ld_fillClause_d45 : decode prog_2_method_7_code 45 = .ok (.getfield 9, 3) := wt_op180 wb12m2_prog_2_method_7_code_c1 17 rfl rfl rfl
theorem wp_ld_fillClause_d48 : decode prog_2_method_7_code 48 = .ok (.aload_n 0, 1) := wt_op42 wb12m2_prog_2_method_7_code_c1 20 rfl rfl
theorem wp_ld_fillClause_d49 : decode prog_2_method_7_code 49 = .ok (.getfield 15, 3) := wt_op180 wb12m2_prog_2_method_7_code_c1 21 rfl rfl rfl
theorem wp_ld_fillClause_d52 : decode prog_2_method_7_code 52 = .ok (.invokestatic 88, 3) := wt_op184 wb12m2_prog_2_method_7_code_c1 24 rfl rfl rfl
theorem wp_ld_fillClause_d55 : decode prog_2_method_7_code 55 = .ok (.ireturn, 1) := wt_op172 wb12m2_prog_2_method_7_code_c1 27 rfl rfl
theorem wp_ld_fillClause_d56 : decode prog_2_method_7_code 56 = .ok (.aload_n 1, 1) := wt_op43 wb12m2_prog_2_method_7_code_c2 0 rfl rfl
theorem wp_ld_fillClause_d57 : decode prog_2_method_7_code 57 = .ok (.ldc 92, 2) := wt_op18 wb12m2_prog_2_method_7_code_c2 1 rfl rfl
theorem wp_ld_fillClause_d59 : decode prog_2_method_7_code 59 = .ok (.invokevirtual 84, 3) := wt_op182 wb12m2_prog_2_method_7_code_c2 3 rfl rfl rfl
theorem wp_ld_fillClause_d62 : decode prog_2_method_7_code 62 = .ok (.ifCond .eq 16, 3) := wt_op153 wb12m2_prog_2_method_7_code_c2 6 rfl rfl rfl
theorem wp_ld_fillClause_d65 : decode prog_2_method_7_code 65 = .ok (.aload_n 1, 1) := wt_op43 wb12m2_prog_2_method_7_code_c2 9 rfl rfl
theorem wp_ld_fillClause_d66 : decode prog_2_method_7_code 66 = .ok (.aload_n 0, 1) := wt_op42 wb12m2_prog_2_method_7_code_c2 10 rfl rfl
theorem wp_ld_fillClause_d67 : decode prog_2_method_7_code 67 = .ok (.getfield 18, 3) := wt_op180 wb12m2_prog_2_method_7_code_c2 11 rfl rfl rfl
theorem wp_ld_fillClause_d70 : decode prog_2_method_7_code 70 = .ok (.aload_n 0, 1) := wt_op42 wb12m2_prog_2_method_7_code_c2 14 rfl rfl
theorem wp_ld_fillClause_d71 : decode prog_2_method_7_code 71 = .ok (.getfield 21, 3) := wt_op180 wb12m2_prog_2_method_7_code_c2 15 rfl rfl rfl
theorem wp_ld_fillClause_d74 : decode prog_2_method_7_code 74 = .ok (.invokestatic 88, 3) := wt_op184 wb12m2_prog_2_method_7_code_c2 18 rfl rfl rfl
theorem wp_ld_fillClause_d77 : decode prog_2_method_7_code 77 = .ok (.ireturn, 1) := wt_op172 wb12m2_prog_2_method_7_code_c2 21 rfl rfl
theorem wp_ld_fillClause_d78 : decode prog_2_method_7_code 78 = .ok (.aload_n 1, 1) := wt_op43 wb12m2_prog_2_method_7_code_c2 22 rfl rfl
theorem wp_ld_fillClause_d79 : decode prog_2_method_7_code 79 = .ok (.ldc 94, 2) := wt_op18 wb12m2_prog_2_method_7_code_c2 23 rfl rfl
theorem wp_ld_fillClause_d81 : decode prog_2_method_7_code 81 = .ok (.invokevirtual 84, 3) := wt_op182 wb12m2_prog_2_method_7_code_c2 25 rfl rfl rfl
theorem wp_ld_fillClause_d84 : decode prog_2_method_7_code 84 = .ok (.ifCond .eq 9, 3) := wt_op153 wb12m2_prog_2_method_7_code_c3 0 rfl rfl rfl
theorem wp_ld_fillClause_d87 : decode prog_2_method_7_code 87 = .ok (.aload_n 0, 1) := wt_op42 wb12m2_prog_2_method_7_code_c3 3 rfl rfl
theorem wp_ld_fillClause_d88 : decode prog_2_method_7_code 88 = .ok (.aload_n 1, 1) := wt_op43 wb12m2_prog_2_method_7_code_c3 4 rfl rfl
theorem wp_ld_fillClause_d89 : decode prog_2_method_7_code 89 = .ok (.invokevirtual 96, 3) := wt_op182 wb12m2_prog_2_method_7_code_c3 5 rfl rfl rfl
theorem wp_ld_fillClause_d92 : decode prog_2_method_7_code 92 = .ok (.ireturn, 1) := wt_op172 wb12m2_prog_2_method_7_code_c3 8 rfl rfl
theorem wp_ld_fillClause_d93 : decode prog_2_method_7_code 93 = .ok (.aload_n 1, 1) := wt_op43 wb12m2_prog_2_method_7_code_c3 9 rfl rfl
theorem wp_ld_fillClause_d94 : decode prog_2_method_7_code 94 = .ok (.ldc 99, 2) := wt_op18 wb12m2_prog_2_method_7_code_c3 10 rfl rfl
theorem wp_ld_fillClause_d96 : decode prog_2_method_7_code 96 = .ok (.invokevirtual 84, 3) := wt_op182 wb12m2_prog_2_method_7_code_c3 12 rfl rfl rfl
theorem wp_ld_fillClause_d99 : decode prog_2_method_7_code 99 = .ok (.ifCond .eq 9, 3) := wt_op153 wb12m2_prog_2_method_7_code_c3 15 rfl rfl rfl
theorem wp_ld_fillClause_d102 : decode prog_2_method_7_code 102 = .ok (.aload_n 0, 1) := wt_op42 wb12m2_prog_2_method_7_code_c3 18 rfl rfl
theorem wp_ld_fillClause_d103 : decode prog_2_method_7_code 103 = .ok (.aload_n 1, 1) := wt_op43 wb12m2_prog_2_method_7_code_c3 19 rfl rfl
theorem wp_ld_fillClause_d104 : decode prog_2_method_7_code 104 = .ok (.invokevirtual 100, 3) := wt_op182 wb12m2_prog_2_method_7_code_c3 20 rfl rfl rfl
theorem wp_ld_fillClause_d107 : decode prog_2_method_7_code 107 = .ok (.ireturn, 1) := wt_op172 wb12m2_prog_2_method_7_code_c3 23 rfl rfl
theorem wp_ld_fillClause_d108 : decode prog_2_method_7_code 108 = .ok (.aload_n 1, 1) := wt_op43 wb12m2_prog_2_method_7_code_c3 24 rfl rfl
theorem wp_ld_fillClause_d109 : decode prog_2_method_7_code 109 = .ok (.ldc 103, 2) := wt_op18 wb12m2_prog_2_method_7_code_c3 25 rfl rfl
theorem wp_ld_fillClause_d111 : decode prog_2_method_7_code 111 = .ok (.invokevirtual 84, 3) := wt_op182 wb12m2_prog_2_method_7_code_c3 27 rfl rfl rfl
theorem wp_ld_fillClause_d114 : decode prog_2_method_7_code 114 = .ok (.ifCond .eq 11, 3) := wt_op153 wb12m2_prog_2_method_7_code_c4 0 rfl rfl rfl
theorem wp_ld_fillClause_d117 : decode prog_2_method_7_code 117 = .ok (.aload_n 0, 1) := wt_op42 wb12m2_prog_2_method_7_code_c4 3 rfl rfl
theorem wp_ld_fillClause_d118 : decode prog_2_method_7_code 118 = .ok (.aload_n 1, 1) := wt_op43 wb12m2_prog_2_method_7_code_c4 4 rfl rfl
theorem wp_ld_fillClause_d119 : decode prog_2_method_7_code 119 = .ok (.invokevirtual 105, 3) := wt_op182 wb12m2_prog_2_method_7_code_c4 5 rfl rfl rfl
theorem wp_ld_fillClause_d122 : decode prog_2_method_7_code 122 = .ok (.goto 8, 3) := wt_op167 wb12m2_prog_2_method_7_code_c4 8 rfl rfl rfl
theorem wp_ld_fillClause_d125 : decode prog_2_method_7_code 125 = .ok (.aload_n 0, 1) := wt_op42 wb12m2_prog_2_method_7_code_c4 11 rfl rfl
theorem wp_ld_fillClause_d126 : decode prog_2_method_7_code 126 = .ok (.aload_n 1, 1) := wt_op43 wb12m2_prog_2_method_7_code_c4 12 rfl rfl
theorem wp_ld_fillClause_d127 : decode prog_2_method_7_code 127 = .ok (.invokevirtual 108, 3) := wt_op182 wb12m2_prog_2_method_7_code_c4 13 rfl rfl rfl
theorem wp_ld_fillClause_d130 : decode prog_2_method_7_code 130 = .ok (.ireturn, 1) := wt_op172 wb12m2_prog_2_method_7_code_c4 16 rfl rfl
noncomputable def wp_ld_fillClause (n : Nat) (t0 : Nat) (x2 : Int32) (σ : wt_St) : Option (Int32 × wt_St) :=
  (wp_tp_takeWord n σ).bind fun q1 =>
  if q1.1 = 0 then
    some ((0 : Int32), q1.2)
  else
    (wp_ld_namesClause n q1.2).bind fun q3 =>
    if q3.1 = 0 then
      (wp_tp_fail n (1 : Int32) q3.2).bind fun q28 =>
      some (q28.1, q28.2)
    else
      if x2 < (60 : Int32) then
        (wp_tp_wordIs n [108, 101, 116, 116, 101, 114] q3.2).bind fun q7 =>
        if q7.1 = 0 then
          (wp_tp_wordIs n [116, 104, 101, 114, 101] q7.2).bind fun q10 =>
          if q10.1 = 0 then
            (wp_tp_wordIs n [112, 114, 105, 99, 101] q10.2).bind fun q13 =>
            if q13.1 = 0 then
              (wp_tp_wordIs n [102, 97, 105, 110, 116] q13.2).bind fun q16 =>
              if q16.1 = 0 then
                (wp_tp_wordIs n [108, 105, 107, 101] q16.2).bind fun q19 =>
                if q19.1 = 0 then
                  (wp_ld_fillFollow n t0 q19.2).bind fun q21 =>
                  some (q21.1, q21.2)
                else
                  (wp_ld_fillLike n t0 q19.2).bind fun q22 =>
                  some (q22.1, q22.2)
              else
                (wp_ld_fillFaint n t0 q16.2).bind fun q23 =>
                some (q23.1, q23.2)
            else
              (wp_ld_fillPrice n t0 q13.2).bind fun q24 =>
              some (q24.1, q24.2)
          else
            (wp_ld_fillPieces n (t0 + 3) (t0 + 4) q10.2).bind fun q25 =>
            some (q25.1, q25.2)
        else
          (wp_ld_fillPieces n (t0 + 1) (t0 + 2) q7.2).bind fun q26 =>
          some (q26.1, q26.2)
      else
        (wp_tp_fail n (3 : Int32) q3.2).bind fun q27 =>
        some (q27.1, q27.2)
set_option maxRecDepth 100000 in
set_option maxHeartbeats 4000000 in
theorem wp_ld_fillClause_ok {l : Launch} {w : wt_E} {n : Nat} {t0 : Nat} {x2 : Int32} (hD : ∀ i, i < 108 → wt_dom w i) (hI_t0 : wt_isLead t0) (hT_t0 : ∀ j, j < 8 → wt_dom w (t0 + j)) {σ : wt_St} {q : Int32 × wt_St} (h : wp_ld_fillClause n t0 x2 σ = some q) : wt_Ctr l w wt_y_ld_fillClause prog_2_method_7_code 3 (some .boolean) 6 [.ref (wt_ad w t0), .ref (wt_ad w 1), .int x2] σ (some q.1) q.2 := by
  refine wt_ctr wt_pl_ld_fillClause rfl (Nat.le_of_ble_eq_true rfl) [some (.ref (wt_ad w t0)), some (.ref (wt_ad w 1)), some (.int x2)] rfl ?_
  intro X hXl hXw hE hR
  subst hXl
  subst hXw
  have hE : wt_Ok X prog_2_method_7_code 3 "WornType$Lead" 6 0 := hE
  unfold wp_ld_fillClause at h
  refine wt_aload_n hE wp_ld_fillClause_d0 rfl ?_
  obtain ⟨q1, hq1, h⟩ := wt_bi h
  refine wt_callVi hE [] wt_lm_ld_72 wt_ya_tp_takeWord (wp_tp_takeWord_ok hD hq1) (by omega) (hD 1 (Nat.le_of_ble_eq_true rfl)) wt_L1 rfl rfl rfl (Nat.le_of_ble_eq_true rfl) (Nat.zero_le _) wp_ld_fillClause_d1 (fun hbq1 => ?_)
  refine wt_if_ne hE 9 wp_ld_fillClause_d4 rfl (fun c2 => ?_) (fun c2 => ?_)
  · have h := wt_in c2 h
    refine wt_aload_n hE wp_ld_fillClause_d9 rfl ?_
    obtain ⟨q3, hq3, h⟩ := wt_bi h
    refine wt_callSi hE [.ref (wt_ad (wt_xw X) 1)] wt_lm_ld_75 wt_ya_ld_namesClause (wp_ld_namesClause_ok hD hq3) (by omega) rfl rfl (Nat.le_of_ble_eq_true rfl) (Nat.zero_le _) wp_ld_fillClause_d10 (fun hbq3 => ?_)
    refine wt_if_ne hE 22 wp_ld_fillClause_d13 rfl (fun c4 => ?_) (fun c4 => ?_)
    · have h := wt_in c4 h
      refine wt_iload_n hE wp_ld_fillClause_d22 rfl ?_
      refine wt_bipush hE (60 : Int32) wp_ld_fillClause_d23 wt_cb_60 ?_
      refine wt_icmp_lt hE 34 wp_ld_fillClause_d25 rfl (fun c5 => ?_) (fun c5 => ?_)
      · have h := wt_ip c5 h
        refine wt_aload_n hE wp_ld_fillClause_d34 rfl ?_
        obtain ⟨a6, ra6, ta6⟩ := (wt_fxOf hE).1 _ (List.mem_of_getElem? (i := 0) rfl)
        refine wt_ldcS hE ra6 wp_ld_fillClause_d35 ?_
        obtain ⟨q7, hq7, h⟩ := wt_bi h
        refine wt_callVS (As := [.ref a6]) (r := some q7.1) hE (wt_Str_fx _ _) ta6 wt_lm_ld_84 wt_ya_tp_wordIs (wp_tp_wordIs_ok hD (by decide) hq7) (by omega) (hD 1 (Nat.le_of_ble_eq_true rfl)) wt_L1 rfl rfl rfl (Nat.le_of_ble_eq_true rfl) (Nat.zero_le _) wp_ld_fillClause_d37 (fun hbq7 => ?_)
        refine wt_if_eq hE 56 wp_ld_fillClause_d40 rfl (fun c8 => ?_) (fun c8 => ?_)
        · have h := wt_ip c8 h
          refine wt_aload_n hE wp_ld_fillClause_d56 rfl ?_
          obtain ⟨a9, ra9, ta9⟩ := (wt_fxOf hE).1 _ (List.mem_of_getElem? (i := 1) rfl)
          refine wt_ldcS hE ra9 wp_ld_fillClause_d57 ?_
          obtain ⟨q10, hq10, h⟩ := wt_bi h
          refine wt_callVS (As := [.ref a9]) (r := some q10.1) hE (wt_Str_fx _ _) ta9 wt_lm_ld_84 wt_ya_tp_wordIs (wp_tp_wordIs_ok hD (by decide) hq10) (by omega) (hD 1 (Nat.le_of_ble_eq_true rfl)) wt_L1 rfl rfl rfl (Nat.le_of_ble_eq_true rfl) (Nat.zero_le _) wp_ld_fillClause_d59 (fun hbq10 => ?_)
          refine wt_if_eq hE 78 wp_ld_fillClause_d62 rfl (fun c11 => ?_) (fun c11 => ?_)
          · have h := wt_ip c11 h
            refine wt_aload_n hE wp_ld_fillClause_d78 rfl ?_
            obtain ⟨a12, ra12, ta12⟩ := (wt_fxOf hE).1 _ (List.mem_of_getElem? (i := 2) rfl)
            refine wt_ldcS hE ra12 wp_ld_fillClause_d79 ?_
            obtain ⟨q13, hq13, h⟩ := wt_bi h
            refine wt_callVS (As := [.ref a12]) (r := some q13.1) hE (wt_Str_fx _ _) ta12 wt_lm_ld_84 wt_ya_tp_wordIs (wp_tp_wordIs_ok hD (by decide) hq13) (by omega) (hD 1 (Nat.le_of_ble_eq_true rfl)) wt_L1 rfl rfl rfl (Nat.le_of_ble_eq_true rfl) (Nat.zero_le _) wp_ld_fillClause_d81 (fun hbq13 => ?_)
            refine wt_if_eq hE 93 wp_ld_fillClause_d84 rfl (fun c14 => ?_) (fun c14 => ?_)
            · have h := wt_ip c14 h
              refine wt_aload_n hE wp_ld_fillClause_d93 rfl ?_
              obtain ⟨a15, ra15, ta15⟩ := (wt_fxOf hE).1 _ (List.mem_of_getElem? (i := 3) rfl)
              refine wt_ldcS hE ra15 wp_ld_fillClause_d94 ?_
              obtain ⟨q16, hq16, h⟩ := wt_bi h
              refine wt_callVS (As := [.ref a15]) (r := some q16.1) hE (wt_Str_fx _ _) ta15 wt_lm_ld_84 wt_ya_tp_wordIs (wp_tp_wordIs_ok hD (by decide) hq16) (by omega) (hD 1 (Nat.le_of_ble_eq_true rfl)) wt_L1 rfl rfl rfl (Nat.le_of_ble_eq_true rfl) (Nat.zero_le _) wp_ld_fillClause_d96 (fun hbq16 => ?_)
              refine wt_if_eq hE 108 wp_ld_fillClause_d99 rfl (fun c17 => ?_) (fun c17 => ?_)
              · have h := wt_ip c17 h
                refine wt_aload_n hE wp_ld_fillClause_d108 rfl ?_
                obtain ⟨a18, ra18, ta18⟩ := (wt_fxOf hE).1 _ (List.mem_of_getElem? (i := 4) rfl)
                refine wt_ldcS hE ra18 wp_ld_fillClause_d109 ?_
                obtain ⟨q19, hq19, h⟩ := wt_bi h
                refine wt_callVS (As := [.ref a18]) (r := some q19.1) hE (wt_Str_fx _ _) ta18 wt_lm_ld_84 wt_ya_tp_wordIs (wp_tp_wordIs_ok hD (by decide) hq19) (by omega) (hD 1 (Nat.le_of_ble_eq_true rfl)) wt_L1 rfl rfl rfl (Nat.le_of_ble_eq_true rfl) (Nat.zero_le _) wp_ld_fillClause_d111 (fun hbq19 => ?_)
                refine wt_if_eq hE 125 wp_ld_fillClause_d114 rfl (fun c20 => ?_) (fun c20 => ?_)
                · have h := wt_ip c20 h
                  refine wt_aload_n hE wp_ld_fillClause_d125 rfl ?_
                  refine wt_aload_n hE wp_ld_fillClause_d126 rfl ?_
                  obtain ⟨q21, hq21, h⟩ := wt_bi h
                  refine wt_callVi hE [.ref (wt_ad (wt_xw X) 1)] wt_lm_ld_108 wt_ya_ld_fillFollow (wp_ld_fillFollow_ok hD hI_t0 hT_t0 hq21) (by omega) (hT_t0 0 (Nat.le_of_ble_eq_true rfl)) (hI_t0.1) rfl rfl rfl (Nat.le_of_ble_eq_true rfl) (Nat.zero_le _) wp_ld_fillClause_d127 (fun hbq21 => ?_)
                  cases h
                  exact wt_zret hE (hbq21 rfl _ rfl) hR wp_ld_fillClause_d130
                · have h := wt_in c20 h
                  refine wt_aload_n hE wp_ld_fillClause_d117 rfl ?_
                  refine wt_aload_n hE wp_ld_fillClause_d118 rfl ?_
                  obtain ⟨q22, hq22, h⟩ := wt_bi h
                  refine wt_callVi hE [.ref (wt_ad (wt_xw X) 1)] wt_lm_ld_105 wt_ya_ld_fillLike (wp_ld_fillLike_ok hD hI_t0 hT_t0 hq22) (by omega) (hT_t0 0 (Nat.le_of_ble_eq_true rfl)) (hI_t0.1) rfl rfl rfl (Nat.le_of_ble_eq_true rfl) (Nat.zero_le _) wp_ld_fillClause_d119 (fun hbq22 => ?_)
                  refine wt_goto hE 130 wp_ld_fillClause_d122 rfl ?_
                  cases h
                  exact wt_zret hE (hbq22 rfl _ rfl) hR wp_ld_fillClause_d130
              · have h := wt_in c17 h
                refine wt_aload_n hE wp_ld_fillClause_d102 rfl ?_
                refine wt_aload_n hE wp_ld_fillClause_d103 rfl ?_
                obtain ⟨q23, hq23, h⟩ := wt_bi h
                refine wt_callVi hE [.ref (wt_ad (wt_xw X) 1)] wt_lm_ld_100 wt_ya_ld_fillFaint (wp_ld_fillFaint_ok hD hI_t0 hT_t0 hq23) (by omega) (hT_t0 0 (Nat.le_of_ble_eq_true rfl)) (hI_t0.1) rfl rfl rfl (Nat.le_of_ble_eq_true rfl) (Nat.zero_le _) wp_ld_fillClause_d104 (fun hbq23 => ?_)
                cases h
                exact wt_zret hE (hbq23 rfl _ rfl) hR wp_ld_fillClause_d107
            · have h := wt_in c14 h
              refine wt_aload_n hE wp_ld_fillClause_d87 rfl ?_
              refine wt_aload_n hE wp_ld_fillClause_d88 rfl ?_
              obtain ⟨q24, hq24, h⟩ := wt_bi h
              refine wt_callVi hE [.ref (wt_ad (wt_xw X) 1)] wt_lm_ld_96 wt_ya_ld_fillPrice (wp_ld_fillPrice_ok hD hI_t0 hT_t0 hq24) (by omega) (hT_t0 0 (Nat.le_of_ble_eq_true rfl)) (hI_t0.1) rfl rfl rfl (Nat.le_of_ble_eq_true rfl) (Nat.zero_le _) wp_ld_fillClause_d89 (fun hbq24 => ?_)
              cases h
              exact wt_zret hE (hbq24 rfl _ rfl) hR wp_ld_fillClause_d92
          · have h := wt_in c11 h
            refine wt_aload_n hE wp_ld_fillClause_d65 rfl ?_
            refine wt_aload_n hE wp_ld_fillClause_d66 rfl ?_
            refine wt_getr hE (r := (t0 + 3)) wt_lf_ld_18 (hT_t0 0 (Nat.le_of_ble_eq_true rfl)) (hI_t0.1) rfl wp_ld_fillClause_d67 ?_
            refine wt_aload_n hE wp_ld_fillClause_d70 rfl ?_
            refine wt_getr hE (r := (t0 + 4)) wt_lf_ld_21 (hT_t0 0 (Nat.le_of_ble_eq_true rfl)) (hI_t0.1) rfl wp_ld_fillClause_d71 ?_
            obtain ⟨q25, hq25, h⟩ := wt_bi h
            refine wt_callSi hE [.ref (wt_ad (wt_xw X) 1), .ref (wt_ad (wt_xw X) ((t0 + 3))), .ref (wt_ad (wt_xw X) ((t0 + 4)))] wt_lm_ld_88 wt_ya_ld_fillPieces (wp_ld_fillPieces_ok hD (wt_lnE (wt_isLead_L3 hI_t0)) (hT_t0 3 (Nat.le_of_ble_eq_true rfl)) (wt_lnE (wt_isLead_L4 hI_t0)) (hT_t0 4 (Nat.le_of_ble_eq_true rfl)) hq25) (by omega) rfl rfl (Nat.le_of_ble_eq_true rfl) (Nat.zero_le _) wp_ld_fillClause_d74 (fun hbq25 => ?_)
            cases h
            exact wt_zret hE (hbq25 rfl _ rfl) hR wp_ld_fillClause_d77
        · have h := wt_in c8 h
          refine wt_aload_n hE wp_ld_fillClause_d43 rfl ?_
          refine wt_aload_n hE wp_ld_fillClause_d44 rfl ?_
          refine wt_getr hE (r := (t0 + 1)) wt_lf_ld_9 (hT_t0 0 (Nat.le_of_ble_eq_true rfl)) (hI_t0.1) rfl wp_ld_fillClause_d45 ?_
          refine wt_aload_n hE wp_ld_fillClause_d48 rfl ?_
          refine wt_getr hE (r := (t0 + 2)) wt_lf_ld_15 (hT_t0 0 (Nat.le_of_ble_eq_true rfl)) (hI_t0.1) rfl wp_ld_fillClause_d49 ?_
          obtain ⟨q26, hq26, h⟩ := wt_bi h
          refine wt_callSi hE [.ref (wt_ad (wt_xw X) 1), .ref (wt_ad (wt_xw X) ((t0 + 1))), .ref (wt_ad (wt_xw X) ((t0 + 2)))] wt_lm_ld_88 wt_ya_ld_fillPieces (wp_ld_fillPieces_ok hD (wt_lnE (wt_isLead_L1 hI_t0)) (hT_t0 1 (Nat.le_of_ble_eq_true rfl)) (wt_lnE (wt_isLead_L2 hI_t0)) (hT_t0 2 (Nat.le_of_ble_eq_true rfl)) hq26) (by omega) rfl rfl (Nat.le_of_ble_eq_true rfl) (Nat.zero_le _) wp_ld_fillClause_d52 (fun hbq26 => ?_)
          cases h
          exact wt_zret hE (hbq26 rfl _ rfl) hR wp_ld_fillClause_d55
      · have h := wt_in c5 h
        refine wt_aload_n hE wp_ld_fillClause_d28 rfl ?_
        refine wt_iconst hE (3 : Int32) wp_ld_fillClause_d29 wt_ci_3 ?_
        obtain ⟨q27, hq27, h⟩ := wt_bi h
        refine wt_callVi hE [.int (3 : Int32)] wt_lm_ld_79 wt_ya_tp_fail (wp_tp_fail_ok hD hq27) (by omega) (hD 1 (Nat.le_of_ble_eq_true rfl)) wt_L1 rfl rfl rfl (Nat.le_of_ble_eq_true rfl) (Nat.zero_le _) wp_ld_fillClause_d30 (fun hbq27 => ?_)
        cases h
        exact wt_zret hE (hbq27 rfl _ rfl) hR wp_ld_fillClause_d33
    · have h := wt_ip c4 h
      refine wt_aload_n hE wp_ld_fillClause_d16 rfl ?_
      refine wt_iconst hE (1 : Int32) wp_ld_fillClause_d17 wt_ci_1 ?_
      obtain ⟨q28, hq28, h⟩ := wt_bi h
      refine wt_callVi hE [.int (1 : Int32)] wt_lm_ld_79 wt_ya_tp_fail (wp_tp_fail_ok hD hq28) (by omega) (hD 1 (Nat.le_of_ble_eq_true rfl)) wt_L1 rfl rfl rfl (Nat.le_of_ble_eq_true rfl) (Nat.zero_le _) wp_ld_fillClause_d18 (fun hbq28 => ?_)
      cases h
      exact wt_zret hE (hbq28 rfl _ rfl) hR wp_ld_fillClause_d21
  · have h := wt_ip c2 h
    refine wt_iconst hE (0 : Int32) wp_ld_fillClause_d7 wt_ci_0 ?_
    cases h
    exact wt_zret hE (by decide) hR wp_ld_fillClause_d8
def wb12m2_prog_7_method_10_code_r1 : List (List Nat) := [3, 172, 42, 89, 180, 0, 32, 4, 96, 181, 0, 32, 4, 172] :: []
def wb12m2_prog_7_method_10_code_r0 : List (List Nat) := [42, 182, 0, 41, 42, 180, 0, 32, 42, 180, 0, 29, 162, 0, 18, 42, 180, 0, 9, 42, 180, 0, 32, 184, 0, 44, 27, 159, 0, 5] :: wb12m2_prog_7_method_10_code_r1
set_option maxRecDepth 100000 in
theorem wb12m2_prog_7_method_10_code_c0 : wt_cs prog_7_method_10_code 0 wb12m2_prog_7_method_10_code_r0 := wt_cs_of (by decide +kernel)
theorem wb12m2_prog_7_method_10_code_c1 : wt_cs prog_7_method_10_code 30 wb12m2_prog_7_method_10_code_r1 := wt_cs_tl (m := 30) wb12m2_prog_7_method_10_code_c0 rfl rfl
theorem wp_tp_takeSign_d0 : decode prog_7_method_10_code 0 = .ok (.aload_n 0, 1) := wt_op42 wb12m2_prog_7_method_10_code_c0 0 rfl rfl
theorem wp_tp_takeSign_d1 : decode prog_7_method_10_code 1 = .ok (.invokevirtual 41, 3) := wt_op182 wb12m2_prog_7_method_10_code_c0 1 rfl rfl rfl
theorem wp_tp_takeSign_d4 : decode prog_7_method_10_code 4 = .ok (.aload_n 0, 1) := wt_op42 wb12m2_prog_7_method_10_code_c0 4 rfl rfl
theorem wp_tp_takeSign_d5 : decode prog_7_method_10_code 5 = .ok (.getfield 32, 3) := wt_op180 wb12m2_prog_7_method_10_code_c0 5 rfl rfl rfl
theorem wp_tp_takeSign_d8 : decode prog_7_method_10_code 8 = .ok (.aload_n 0, 1) := wt_op42 wb12m2_prog_7_method_10_code_c0 8 rfl rfl
theorem wp_tp_takeSign_d9 : decode prog_7_method_10_code 9 = .ok (.getfield 29, 3) := wt_op180 wb12m2_prog_7_method_10_code_c0 9 rfl rfl rfl
theorem wp_tp_takeSign_d12 : decode prog_7_method_10_code 12 = .ok (.if_icmp .ge 18, 3) := wt_op162 wb12m2_prog_7_method_10_code_c0 12 rfl rfl rfl
theorem wp_tp_takeSign_d15 : decode prog_7_method_10_code 15 = .ok (.aload_n 0, 1) := wt_op42 wb12m2_prog_7_method_10_code_c0 15 rfl rfl
theorem wp_tp_takeSign_d16 : decode prog_7_method_10_code 16 = .ok (.getfield 9, 3) := wt_op180 wb12m2_prog_7_method_10_code_c0 16 rfl rfl rfl
theorem wp_tp_takeSign_d19 : decode prog_7_method_10_code 19 = .ok (.aload_n 0, 1) := wt_op42 wb12m2_prog_7_method_10_code_c0 19 rfl rfl
theorem wp_tp_takeSign_d20 : decode prog_7_method_10_code 20 = .ok (.getfield 32, 3) := wt_op180 wb12m2_prog_7_method_10_code_c0 20 rfl rfl rfl
theorem wp_tp_takeSign_d23 : decode prog_7_method_10_code 23 = .ok (.invokestatic 44, 3) := wt_op184 wb12m2_prog_7_method_10_code_c0 23 rfl rfl rfl
theorem wp_tp_takeSign_d26 : decode prog_7_method_10_code 26 = .ok (.iload_n 1, 1) := wt_op27 wb12m2_prog_7_method_10_code_c0 26 rfl rfl
theorem wp_tp_takeSign_d27 : decode prog_7_method_10_code 27 = .ok (.if_icmp .eq 5, 3) := wt_op159 wb12m2_prog_7_method_10_code_c0 27 rfl rfl rfl
theorem wp_tp_takeSign_d30 : decode prog_7_method_10_code 30 = .ok (.iconst 0, 1) := wt_op3 wb12m2_prog_7_method_10_code_c1 0 rfl rfl
theorem wp_tp_takeSign_d31 : decode prog_7_method_10_code 31 = .ok (.ireturn, 1) := wt_op172 wb12m2_prog_7_method_10_code_c1 1 rfl rfl
theorem wp_tp_takeSign_d32 : decode prog_7_method_10_code 32 = .ok (.aload_n 0, 1) := wt_op42 wb12m2_prog_7_method_10_code_c1 2 rfl rfl
theorem wp_tp_takeSign_d33 : decode prog_7_method_10_code 33 = .ok (.dup, 1) := wt_op89 wb12m2_prog_7_method_10_code_c1 3 rfl rfl
theorem wp_tp_takeSign_d34 : decode prog_7_method_10_code 34 = .ok (.getfield 32, 3) := wt_op180 wb12m2_prog_7_method_10_code_c1 4 rfl rfl rfl
theorem wp_tp_takeSign_d37 : decode prog_7_method_10_code 37 = .ok (.iconst 1, 1) := wt_op4 wb12m2_prog_7_method_10_code_c1 7 rfl rfl
theorem wp_tp_takeSign_d38 : decode prog_7_method_10_code 38 = .ok (.iadd, 1) := wt_op96 wb12m2_prog_7_method_10_code_c1 8 rfl rfl
theorem wp_tp_takeSign_d39 : decode prog_7_method_10_code 39 = .ok (.putfield 32, 3) := wt_op181 wb12m2_prog_7_method_10_code_c1 9 rfl rfl rfl
theorem wp_tp_takeSign_d42 : decode prog_7_method_10_code 42 = .ok (.iconst 1, 1) := wt_op4 wb12m2_prog_7_method_10_code_c1 12 rfl rfl
theorem wp_tp_takeSign_d43 : decode prog_7_method_10_code 43 = .ok (.ireturn, 1) := wt_op172 wb12m2_prog_7_method_10_code_c1 13 rfl rfl
noncomputable def wp_tp_takeSign (n : Nat) (x1 : Int32) (σ : wt_St) : Option (Int32 × wt_St) :=
  (wp_tp_skipBlanks n σ).bind fun q1 =>
  if (wt_gf q1 1 3) ≤ (wt_gf q1 1 4) then
    some ((0 : Int32), q1)
  else
    (wp_ap_look n 2 (wt_gf q1 1 4) q1).bind fun q3 =>
    if q3.1 = x1 then
      some ((1 : Int32), (wt_sf q3.2 1 4 ((wt_gf q3.2 1 4) + (1 : Int32))))
    else
      some ((0 : Int32), q3.2)
set_option maxRecDepth 100000 in
set_option maxHeartbeats 4000000 in
theorem wp_tp_takeSign_ok {l : Launch} {w : wt_E} {n : Nat} {x1 : Int32} (hD : ∀ i, i < 108 → wt_dom w i) {σ : wt_St} {q : Int32 × wt_St} (h : wp_tp_takeSign n x1 σ = some q) : wt_Ctr l w wt_y_tp_takeSign prog_7_method_10_code 2 (some .boolean) 2 [.ref (wt_ad w 1), .int x1] σ (some q.1) q.2 := by
  refine wt_ctr wt_pl_tp_takeSign rfl (Nat.le_of_ble_eq_true rfl) [some (.ref (wt_ad w 1)), some (.int x1)] rfl ?_
  intro X hXl hXw hE hR
  subst hXl
  subst hXw
  have hE : wt_Ok X prog_7_method_10_code 2 "WornType$Tape" 2 0 := hE
  unfold wp_tp_takeSign at h
  refine wt_aload_n hE wp_tp_takeSign_d0 rfl ?_
  obtain ⟨q1, hq1, h⟩ := wt_bi h
  refine wt_callVv hE [] wt_lm_tp_41 wt_ya_tp_skipBlanks (wp_tp_skipBlanks_ok hD hq1) (by omega) (hD 1 (Nat.le_of_ble_eq_true rfl)) wt_L1 rfl rfl rfl (Nat.le_of_ble_eq_true rfl) (Nat.zero_le _) wp_tp_takeSign_d1 ?_
  refine wt_aload_n hE wp_tp_takeSign_d4 rfl ?_
  refine wt_geti hE wt_lf_tp_32 (hD 1 (Nat.le_of_ble_eq_true rfl)) wt_L1 rfl wp_tp_takeSign_d5 ?_
  refine wt_aload_n hE wp_tp_takeSign_d8 rfl ?_
  refine wt_geti hE wt_lf_tp_29 (hD 1 (Nat.le_of_ble_eq_true rfl)) wt_L1 rfl wp_tp_takeSign_d9 ?_
  refine wt_icmp_ge hE 30 wp_tp_takeSign_d12 rfl (fun c2 => ?_) (fun c2 => ?_)
  · have h := wt_ip c2 h
    refine wt_iconst hE (0 : Int32) wp_tp_takeSign_d30 wt_ci_0 ?_
    cases h
    exact wt_zret hE (by decide) hR wp_tp_takeSign_d31
  · have h := wt_in c2 h
    refine wt_aload_n hE wp_tp_takeSign_d15 rfl ?_
    refine wt_getr hE (r := 2) wt_lf_tp_9 (hD 1 (Nat.le_of_ble_eq_true rfl)) wt_L1 rfl wp_tp_takeSign_d16 ?_
    refine wt_aload_n hE wp_tp_takeSign_d19 rfl ?_
    refine wt_geti hE wt_lf_tp_32 (hD 1 (Nat.le_of_ble_eq_true rfl)) wt_L1 rfl wp_tp_takeSign_d20 ?_
    obtain ⟨q3, hq3, h⟩ := wt_bi h
    refine wt_callSi hE [.ref (wt_ad (wt_xw X) 2), .int (wt_gf q1 1 4)] wt_lm_tp_44 wt_ya_ap_look (wp_ap_look_ok (wt_lnE wt_L2) (hD 2 (Nat.le_of_ble_eq_true rfl)) hq3) (by omega) rfl rfl (Nat.le_of_ble_eq_true rfl) (Nat.zero_le _) wp_tp_takeSign_d23 (fun hbq3 => ?_)
    refine wt_iload_n hE wp_tp_takeSign_d26 rfl ?_
    refine wt_icmp_eq hE 32 wp_tp_takeSign_d27 rfl (fun c4 => ?_) (fun c4 => ?_)
    · have h := wt_ip c4 h
      refine wt_aload_n hE wp_tp_takeSign_d32 rfl ?_
      refine wt_dup hE wp_tp_takeSign_d33 rfl ?_
      refine wt_geti hE wt_lf_tp_32 (hD 1 (Nat.le_of_ble_eq_true rfl)) wt_L1 rfl wp_tp_takeSign_d34 ?_
      refine wt_iconst hE (1 : Int32) wp_tp_takeSign_d37 wt_ci_1 ?_
      refine wt_iadd hE wp_tp_takeSign_d38 ?_
      refine wt_puti hE wt_lf_tp_32 (hD 1 (Nat.le_of_ble_eq_true rfl)) wt_L1 rfl (fun q hq => by cases hq; rfl) wp_tp_takeSign_d39 ?_
      refine wt_iconst hE (1 : Int32) wp_tp_takeSign_d42 wt_ci_1 ?_
      cases h
      exact wt_zret hE (by decide) hR wp_tp_takeSign_d43
    · have h := wt_in c4 h
      refine wt_iconst hE (0 : Int32) wp_tp_takeSign_d30 wt_ci_0 ?_
      cases h
      exact wt_zret hE (by decide) hR wp_tp_takeSign_d31
def wb12m2_prog_7_method_11_code_r0 : List (List Nat) := [42, 27, 182, 0, 82, 154, 0, 11, 42, 4, 182, 0, 52, 153, 0, 7, 4, 167, 0, 4, 3, 172] :: []
set_option maxRecDepth 100000 in
theorem wb12m2_prog_7_method_11_code_c0 : wt_cs prog_7_method_11_code 0 wb12m2_prog_7_method_11_code_r0 := wt_cs_of (by decide +kernel)
theorem wp_tp_needSign_d0 : decode prog_7_method_11_code 0 = .ok (.aload_n 0, 1) := wt_op42 wb12m2_prog_7_method_11_code_c0 0 rfl rfl
theorem wp_tp_needSign_d1 : decode prog_7_method_11_code 1 = .ok (.iload_n 1, 1) := wt_op27 wb12m2_prog_7_method_11_code_c0 1 rfl rfl
theorem wp_tp_needSign_d2 : decode prog_7_method_11_code 2 = .ok (.invokevirtual 82, 3) := wt_op182 wb12m2_prog_7_method_11_code_c0 2 rfl rfl rfl
theorem wp_tp_needSign_d5 : decode prog_7_method_11_code 5 = .ok (.ifCond .ne 11, 3) := wt_op154 wb12m2_prog_7_method_11_code_c0 5 rfl rfl rfl
theorem wp_tp_needSign_d8 : decode prog_7_method_11_code 8 = .ok (.aload_n 0, 1) := wt_op42 wb12m2_prog_7_method_11_code_c0 8 rfl rfl
theorem wp_tp_needSign_d9 : decode prog_7_method_11_code 9 = .ok (.iconst 1, 1) := wt_op4 wb12m2_prog_7_method_11_code_c0 9 rfl rfl
theorem wp_tp_needSign_d10 : decode prog_7_method_11_code 10 = .ok (.invokevirtual 52, 3) := wt_op182 wb12m2_prog_7_method_11_code_c0 10 rfl rfl rfl
theorem wp_tp_needSign_d13 : decode prog_7_method_11_code 13 = .ok (.ifCond .eq 7, 3) := wt_op153 wb12m2_prog_7_method_11_code_c0 13 rfl rfl rfl
theorem wp_tp_needSign_d16 : decode prog_7_method_11_code 16 = .ok (.iconst 1, 1) := wt_op4 wb12m2_prog_7_method_11_code_c0 16 rfl rfl
theorem wp_tp_needSign_d17 : decode prog_7_method_11_code 17 = .ok (.goto 4, 3) := wt_op167 wb12m2_prog_7_method_11_code_c0 17 rfl rfl rfl
theorem wp_tp_needSign_d20 : decode prog_7_method_11_code 20 = .ok (.iconst 0, 1) := wt_op3 wb12m2_prog_7_method_11_code_c0 20 rfl rfl
theorem wp_tp_needSign_d21 : decode prog_7_method_11_code 21 = .ok (.ireturn, 1) := wt_op172 wb12m2_prog_7_method_11_code_c0 21 rfl rfl
noncomputable def wp_tp_needSign (n : Nat) (x1 : Int32) (σ : wt_St) : Option (Int32 × wt_St) :=
  (wp_tp_takeSign n x1 σ).bind fun q1 =>
  if q1.1 = 0 then
    (wp_tp_fail n (1 : Int32) q1.2).bind fun q3 =>
    if q3.1 = 0 then
      some ((0 : Int32), q3.2)
    else
      some ((1 : Int32), q3.2)
  else
    some ((1 : Int32), q1.2)
set_option maxRecDepth 100000 in
set_option maxHeartbeats 4000000 in
theorem wp_tp_needSign_ok {l : Launch} {w : wt_E} {n : Nat} {x1 : Int32} (hD : ∀ i, i < 108 → wt_dom w i) {σ : wt_St} {q : Int32 × wt_St} (h : wp_tp_needSign n x1 σ = some q) : wt_Ctr l w wt_y_tp_needSign prog_7_method_11_code 2 (some .boolean) 3 [.ref (wt_ad w 1), .int x1] σ (some q.1) q.2 := by
  refine wt_ctr wt_pl_tp_needSign rfl (Nat.le_of_ble_eq_true rfl) [some (.ref (wt_ad w 1)), some (.int x1)] rfl ?_
  intro X hXl hXw hE hR
  subst hXl
  subst hXw
  have hE : wt_Ok X prog_7_method_11_code 2 "WornType$Tape" 3 0 := hE
  unfold wp_tp_needSign at h
  refine wt_aload_n hE wp_tp_needSign_d0 rfl ?_
  refine wt_iload_n hE wp_tp_needSign_d1 rfl ?_
  obtain ⟨q1, hq1, h⟩ := wt_bi h
  refine wt_callVi hE [.int x1] wt_lm_tp_82 wt_ya_tp_takeSign (wp_tp_takeSign_ok hD hq1) (by omega) (hD 1 (Nat.le_of_ble_eq_true rfl)) wt_L1 rfl rfl rfl (Nat.le_of_ble_eq_true rfl) (Nat.zero_le _) wp_tp_needSign_d2 (fun hbq1 => ?_)
  refine wt_if_ne hE 16 wp_tp_needSign_d5 rfl (fun c2 => ?_) (fun c2 => ?_)
  · have h := wt_in c2 h
    refine wt_iconst hE (1 : Int32) wp_tp_needSign_d16 wt_ci_1 ?_
    refine wt_goto hE 21 wp_tp_needSign_d17 rfl ?_
    cases h
    exact wt_zret hE (by decide) hR wp_tp_needSign_d21
  · have h := wt_ip c2 h
    refine wt_aload_n hE wp_tp_needSign_d8 rfl ?_
    refine wt_iconst hE (1 : Int32) wp_tp_needSign_d9 wt_ci_1 ?_
    obtain ⟨q3, hq3, h⟩ := wt_bi h
    refine wt_callVi hE [.int (1 : Int32)] wt_lm_tp_52 wt_ya_tp_fail (wp_tp_fail_ok hD hq3) (by omega) (hD 1 (Nat.le_of_ble_eq_true rfl)) wt_L1 rfl rfl rfl (Nat.le_of_ble_eq_true rfl) (Nat.zero_le _) wp_tp_needSign_d10 (fun hbq3 => ?_)
    refine wt_if_eq hE 20 wp_tp_needSign_d13 rfl (fun c4 => ?_) (fun c4 => ?_)
    · have h := wt_ip c4 h
      refine wt_iconst hE (0 : Int32) wp_tp_needSign_d20 wt_ci_0 ?_
      cases h
      exact wt_zret hE (by decide) hR wp_tp_needSign_d21
    · have h := wt_in c4 h
      refine wt_iconst hE (1 : Int32) wp_tp_needSign_d16 wt_ci_1 ?_
      refine wt_goto hE 21 wp_tp_needSign_d17 rfl ?_
      cases h
      exact wt_zret hE (by decide) hR wp_tp_needSign_d21
def wb12m2_prog_7_method_4_code_r0 : List (List Nat) := [42, 182, 0, 41, 42, 180, 0, 32, 42, 180, 0, 29, 161, 0, 7, 4, 167, 0, 4, 3, 172] :: []
set_option maxRecDepth 100000 in
theorem wb12m2_prog_7_method_4_code_c0 : wt_cs prog_7_method_4_code 0 wb12m2_prog_7_method_4_code_r0 := wt_cs_of (by decide +kernel)
theorem wp_tp_over_d0 : decode prog_7_method_4_code 0 = .ok (.aload_n 0, 1) := wt_op42 wb12m2_prog_7_method_4_code_c0 0 rfl rfl
theorem wp_tp_over_d1 : decode prog_7_method_4_code 1 = .ok (.invokevirtual 41, 3) := wt_op182 wb12m2_prog_7_method_4_code_c0 1 rfl rfl rfl
theorem wp_tp_over_d4 : decode prog_7_method_4_code 4 = .ok (.aload_n 0, 1) := wt_op42 wb12m2_prog_7_method_4_code_c0 4 rfl rfl
theorem wp_tp_over_d5 : decode prog_7_method_4_code 5 = .ok (.getfield 32, 3) := wt_op180 wb12m2_prog_7_method_4_code_c0 5 rfl rfl rfl
theorem wp_tp_over_d8 : decode prog_7_method_4_code 8 = .ok (.aload_n 0, 1) := wt_op42 wb12m2_prog_7_method_4_code_c0 8 rfl rfl
theorem wp_tp_over_d9 : decode prog_7_method_4_code 9 = .ok (.getfield 29, 3) := wt_op180 wb12m2_prog_7_method_4_code_c0 9 rfl rfl rfl
theorem wp_tp_over_d12 : decode prog_7_method_4_code 12 = .ok (.if_icmp .lt 7, 3) := wt_op161 wb12m2_prog_7_method_4_code_c0 12 rfl rfl rfl
theorem wp_tp_over_d15 : decode prog_7_method_4_code 15 = .ok (.iconst 1, 1) := wt_op4 wb12m2_prog_7_method_4_code_c0 15 rfl rfl
theorem wp_tp_over_d16 : decode prog_7_method_4_code 16 = .ok (.goto 4, 3) := wt_op167 wb12m2_prog_7_method_4_code_c0 16 rfl rfl rfl
theorem wp_tp_over_d19 : decode prog_7_method_4_code 19 = .ok (.iconst 0, 1) := wt_op3 wb12m2_prog_7_method_4_code_c0 19 rfl rfl
theorem wp_tp_over_d20 : decode prog_7_method_4_code 20 = .ok (.ireturn, 1) := wt_op172 wb12m2_prog_7_method_4_code_c0 20 rfl rfl
noncomputable def wp_tp_over (n : Nat) (σ : wt_St) : Option (Int32 × wt_St) :=
  (wp_tp_skipBlanks n σ).bind fun q1 =>
  if (wt_gf q1 1 4) < (wt_gf q1 1 3) then
    some ((0 : Int32), q1)
  else
    some ((1 : Int32), q1)
set_option maxRecDepth 100000 in
set_option maxHeartbeats 4000000 in
theorem wp_tp_over_ok {l : Launch} {w : wt_E} {n : Nat} (hD : ∀ i, i < 108 → wt_dom w i) {σ : wt_St} {q : Int32 × wt_St} (h : wp_tp_over n σ = some q) : wt_Ctr l w wt_y_tp_over prog_7_method_4_code 1 (some .boolean) 2 [.ref (wt_ad w 1)] σ (some q.1) q.2 := by
  refine wt_ctr wt_pl_tp_over rfl (Nat.le_of_ble_eq_true rfl) [some (.ref (wt_ad w 1))] rfl ?_
  intro X hXl hXw hE hR
  subst hXl
  subst hXw
  have hE : wt_Ok X prog_7_method_4_code 1 "WornType$Tape" 2 0 := hE
  unfold wp_tp_over at h
  refine wt_aload_n hE wp_tp_over_d0 rfl ?_
  obtain ⟨q1, hq1, h⟩ := wt_bi h
  refine wt_callVv hE [] wt_lm_tp_41 wt_ya_tp_skipBlanks (wp_tp_skipBlanks_ok hD hq1) (by omega) (hD 1 (Nat.le_of_ble_eq_true rfl)) wt_L1 rfl rfl rfl (Nat.le_of_ble_eq_true rfl) (Nat.zero_le _) wp_tp_over_d1 ?_
  refine wt_aload_n hE wp_tp_over_d4 rfl ?_
  refine wt_geti hE wt_lf_tp_32 (hD 1 (Nat.le_of_ble_eq_true rfl)) wt_L1 rfl wp_tp_over_d5 ?_
  refine wt_aload_n hE wp_tp_over_d8 rfl ?_
  refine wt_geti hE wt_lf_tp_29 (hD 1 (Nat.le_of_ble_eq_true rfl)) wt_L1 rfl wp_tp_over_d9 ?_
  refine wt_icmp_lt hE 19 wp_tp_over_d12 rfl (fun c2 => ?_) (fun c2 => ?_)
  · have h := wt_ip c2 h
    refine wt_iconst hE (0 : Int32) wp_tp_over_d19 wt_ci_0 ?_
    cases h
    exact wt_zret hE (by decide) hR wp_tp_over_d20
  · have h := wt_in c2 h
    refine wt_iconst hE (1 : Int32) wp_tp_over_d15 wt_ci_1 ?_
    refine wt_goto hE 20 wp_tp_over_d16 rfl ?_
    cases h
    exact wt_zret hE (by decide) hR wp_tp_over_d20
def wb12m2_prog_2_method_5_code_r1 : List (List Nat) := [43, 16, 59, 182, 0, 64, 154, 0, 5, 3, 172, 132, 2, 1, 167, 255, 218, 3, 172] :: []
def wb12m2_prog_2_method_5_code_r0 : List (List Nat) := [42, 182, 0, 33, 3, 61, 28, 16, 60, 163, 0, 38, 43, 182, 0, 54, 153, 0, 5, 4, 172, 42, 43, 28, 182, 0, 60, 153, 0, 12] :: wb12m2_prog_2_method_5_code_r1
set_option maxRecDepth 100000 in
theorem wb12m2_prog_2_method_5_code_c0 : wt_cs prog_2_method_5_code 0 wb12m2_prog_2_method_5_code_r0 := wt_cs_of (by decide +kernel)
theorem wb12m2_prog_2_method_5_code_c1 : wt_cs prog_2_method_5_code 30 wb12m2_prog_2_method_5_code_r1 := wt_cs_tl (m := 30) wb12m2_prog_2_method_5_code_c0 rfl rfl
theorem wp_ld_fill_d0 : decode prog_2_method_5_code 0 = .ok (.aload_n 0, 1) := wt_op42 wb12m2_prog_2_method_5_code_c0 0 rfl rfl
theorem wp_ld_fill_d1 : decode prog_2_method_5_code 1 = .ok (.invokevirtual 33, 3) := wt_op182 wb12m2_prog_2_method_5_code_c0 1 rfl rfl rfl
theorem wp_ld_fill_d4 : decode prog_2_method_5_code 4 = .ok (.iconst 0, 1) := wt_op3 wb12m2_prog_2_method_5_code_c0 4 rfl rfl
theorem wp_ld_fill_d5 : decode prog_2_method_5_code 5 = .ok (.istore_n 2, 1) := wt_op61 wb12m2_prog_2_method_5_code_c0 5 rfl rfl
theorem wp_ld_fill_d6 : decode prog_2_method_5_code 6 = .ok (.iload_n 2, 1) := wt_op28 wb12m2_prog_2_method_5_code_c0 6 rfl rfl
theorem wp_ld_fill_d7 : decode prog_2_method_5_code 7 = .ok (.bipush 60, 2) := wt_op16 wb12m2_prog_2_method_5_code_c0 7 rfl rfl rfl
theorem wp_ld_fill_d9 : decode prog_2_method_5_code 9 = .ok (.if_icmp .gt 38, 3) := wt_op163 wb12m2_prog_2_method_5_code_c0 9 rfl rfl rfl
theorem wp_ld_fill_d12 : decode prog_2_method_5_code 12 = .ok (.aload_n 1, 1) := wt_op43 wb12m2_prog_2_method_5_code_c0 12 rfl rfl
theorem wp_ld_fill_d13 : decode prog_2_method_5_code 13 = .ok (.invokevirtual 54, 3) := wt_op182 wb12m2_prog_2_method_5_code_c0 13 rfl rfl rfl
theorem wp_ld_fill_d16 : decode prog_2_method_5_code 16 = .ok (.ifCond .eq 5, 3) := wt_op153 wb12m2_prog_2_method_5_code_c0 16 rfl rfl rfl
theorem wp_ld_fill_d19 : decode prog_2_method_5_code 19 = .ok (.iconst 1, 1) := wt_op4 wb12m2_prog_2_method_5_code_c0 19 rfl rfl
theorem wp_ld_fill_d20 : decode prog_2_method_5_code 20 = .ok (.ireturn, 1) := wt_op172 wb12m2_prog_2_method_5_code_c0 20 rfl rfl
theorem wp_ld_fill_d21 : decode prog_2_method_5_code 21 = .ok (.aload_n 0, 1) := wt_op42 wb12m2_prog_2_method_5_code_c0 21 rfl rfl
theorem wp_ld_fill_d22 : decode prog_2_method_5_code 22 = .ok (.aload_n 1, 1) := wt_op43 wb12m2_prog_2_method_5_code_c0 22 rfl rfl
theorem wp_ld_fill_d23 : decode prog_2_method_5_code 23 = .ok (.iload_n 2, 1) := wt_op28 wb12m2_prog_2_method_5_code_c0 23 rfl rfl
theorem wp_ld_fill_d24 : decode prog_2_method_5_code 24 = .ok (.invokevirtual 60, 3) := wt_op182 wb12m2_prog_2_method_5_code_c0 24 rfl rfl rfl
theorem wp_ld_fill_d27 : decode prog_2_method_5_code 27 = .ok (.ifCond .eq 12, 3) := wt_op153 wb12m2_prog_2_method_5_code_c0 27 rfl rfl rfl
theorem wp_ld_fill_d30 : decode prog_2_method_5_code 30 = .ok (.aload_n 1, 1) := wt_op43 wb12m2_prog_2_method_5_code_c1 0 rfl rfl
theorem wp_ld_fill_d31 : decode prog_2_method_5_code 31 = .ok (.bipush 59, 2) := wt_op16 wb12m2_prog_2_method_5_code_c1 1 rfl rfl rfl
theorem wp_ld_fill_d33 : decode prog_2_method_5_code 33 = .ok (.invokevirtual 64, 3) := wt_op182 wb12m2_prog_2_method_5_code_c1 3 rfl rfl rfl
theorem wp_ld_fill_d36 : decode prog_2_method_5_code 36 = .ok (.ifCond .ne 5, 3) := wt_op154 wb12m2_prog_2_method_5_code_c1 6 rfl rfl rfl
theorem wp_ld_fill_d39 : decode prog_2_method_5_code 39 = .ok (.iconst 0, 1) := wt_op3 wb12m2_prog_2_method_5_code_c1 9 rfl rfl
theorem wp_ld_fill_d40 : decode prog_2_method_5_code 40 = .ok (.ireturn, 1) := wt_op172 wb12m2_prog_2_method_5_code_c1 10 rfl rfl
theorem wp_ld_fill_d41 : decode prog_2_method_5_code 41 = .ok (.iinc 2 1, 3) := wt_op132 wb12m2_prog_2_method_5_code_c1 11 rfl rfl rfl
theorem wp_ld_fill_d44 : decode prog_2_method_5_code 44 = .ok (.goto (-38), 3) := wt_op167 wb12m2_prog_2_method_5_code_c1 14 rfl rfl rfl
theorem wp_ld_fill_d47 : decode prog_2_method_5_code 47 = .ok (.iconst 0, 1) := wt_op3 wb12m2_prog_2_method_5_code_c1 17 rfl rfl
theorem wp_ld_fill_d48 : decode prog_2_method_5_code 48 = .ok (.ireturn, 1) := wt_op172 wb12m2_prog_2_method_5_code_c1 18 rfl rfl
noncomputable def wp_ld_fill_B6 (n : Nat) (t0 : Nat) (K6 : Int32 × wt_St → Option (Int32 × wt_St)) (s : Int32 × wt_St) : Option (Int32 × wt_St) :=
  if (60 : Int32) < s.1 then
    some ((0 : Int32), s.2)
  else
    (wp_tp_over n s.2).bind fun q3 =>
    if q3.1 = 0 then
      (wp_ld_fillClause n t0 s.1 q3.2).bind fun q5 =>
      if q5.1 = 0 then
        some ((0 : Int32), q5.2)
      else
        (wp_tp_needSign n (59 : Int32) q5.2).bind fun q7 =>
        if q7.1 = 0 then
          some ((0 : Int32), q7.2)
        else
          K6 ((s.1 + (1 : Int32)), q7.2)
    else
      some ((1 : Int32), q3.2)
set_option maxRecDepth 100000 in
set_option maxHeartbeats 4000000 in
theorem wp_ld_fill_B6_ok  {t0 : Nat} {X : wt_X} {n : Nat} {res : Int32 × wt_St} (hE : wt_Ok X prog_2_method_5_code 3 "WornType$Lead" 7 0) (hR : wt_Rt X (some .boolean) (some res.1) res.2) (hD : ∀ i, i < 108 → wt_dom (wt_xw X) i) (hI_t0 : wt_isLead t0) (hT_t0 : ∀ j, j < 8 → wt_dom (wt_xw X) (t0 + j)) {K6 : Int32 × wt_St → Option (Int32 × wt_St)} (hK6 : ∀ s : Int32 × wt_St, K6 s = some res → wt_V X 0 s.2 6 [some (.ref (wt_ad (wt_xw X) t0)), some (.ref (wt_ad (wt_xw X) 1)), some (.int s.1)] []) {s : Int32 × wt_St} (h : wp_ld_fill_B6 n t0 K6 s = some res) : wt_V X 0 s.2 6 [some (.ref (wt_ad (wt_xw X) t0)), some (.ref (wt_ad (wt_xw X) 1)), some (.int s.1)] [] := by
  unfold wp_ld_fill_B6 at h
  refine wt_iload_n hE wp_ld_fill_d6 rfl ?_
  refine wt_bipush hE (60 : Int32) wp_ld_fill_d7 wt_cb_60 ?_
  refine wt_icmp_gt hE 47 wp_ld_fill_d9 rfl (fun c2 => ?_) (fun c2 => ?_)
  · have h := wt_ip c2 h
    refine wt_iconst hE (0 : Int32) wp_ld_fill_d47 wt_ci_0 ?_
    cases h
    exact wt_zret hE (by decide) hR wp_ld_fill_d48
  · have h := wt_in c2 h
    refine wt_aload_n hE wp_ld_fill_d12 rfl ?_
    obtain ⟨q3, hq3, h⟩ := wt_bi h
    refine wt_callVi hE [] wt_lm_ld_54 wt_ya_tp_over (wp_tp_over_ok hD hq3) (by omega) (hD 1 (Nat.le_of_ble_eq_true rfl)) wt_L1 rfl rfl rfl (Nat.le_of_ble_eq_true rfl) (Nat.zero_le _) wp_ld_fill_d13 (fun hbq3 => ?_)
    refine wt_if_eq hE 21 wp_ld_fill_d16 rfl (fun c4 => ?_) (fun c4 => ?_)
    · have h := wt_ip c4 h
      refine wt_aload_n hE wp_ld_fill_d21 rfl ?_
      refine wt_aload_n hE wp_ld_fill_d22 rfl ?_
      refine wt_iload_n hE wp_ld_fill_d23 rfl ?_
      obtain ⟨q5, hq5, h⟩ := wt_bi h
      refine wt_callVi hE [.ref (wt_ad (wt_xw X) 1), .int s.1] wt_lm_ld_60 wt_ya_ld_fillClause (wp_ld_fillClause_ok hD hI_t0 hT_t0 hq5) (by omega) (hT_t0 0 (Nat.le_of_ble_eq_true rfl)) (hI_t0.1) rfl rfl rfl (Nat.le_of_ble_eq_true rfl) (Nat.zero_le _) wp_ld_fill_d24 (fun hbq5 => ?_)
      refine wt_if_eq hE 39 wp_ld_fill_d27 rfl (fun c6 => ?_) (fun c6 => ?_)
      · have h := wt_ip c6 h
        refine wt_iconst hE (0 : Int32) wp_ld_fill_d39 wt_ci_0 ?_
        cases h
        exact wt_zret hE (by decide) hR wp_ld_fill_d40
      · have h := wt_in c6 h
        refine wt_aload_n hE wp_ld_fill_d30 rfl ?_
        refine wt_bipush hE (59 : Int32) wp_ld_fill_d31 wt_cb_59 ?_
        obtain ⟨q7, hq7, h⟩ := wt_bi h
        refine wt_callVi hE [.int (59 : Int32)] wt_lm_ld_64 wt_ya_tp_needSign (wp_tp_needSign_ok hD hq7) (by omega) (hD 1 (Nat.le_of_ble_eq_true rfl)) wt_L1 rfl rfl rfl (Nat.le_of_ble_eq_true rfl) (Nat.zero_le _) wp_ld_fill_d33 (fun hbq7 => ?_)
        refine wt_if_ne hE 41 wp_ld_fill_d36 rfl (fun c8 => ?_) (fun c8 => ?_)
        · have h := wt_in c8 h
          refine wt_iinc hE (s.1 + (1 : Int32)) [some (.ref (wt_ad (wt_xw X) t0)), some (.ref (wt_ad (wt_xw X) 1)), some (.int (s.1 + (1 : Int32)))] wp_ld_fill_d41 (by decide) rfl rfl rfl ?_
          refine wt_goto hE 6 wp_ld_fill_d44 rfl ?_
          exact hK6 ((s.1 + (1 : Int32)), q7.2) h
        · have h := wt_ip c8 h
          refine wt_iconst hE (0 : Int32) wp_ld_fill_d39 wt_ci_0 ?_
          cases h
          exact wt_zret hE (by decide) hR wp_ld_fill_d40
    · have h := wt_in c4 h
      refine wt_iconst hE (1 : Int32) wp_ld_fill_d19 wt_ci_1 ?_
      cases h
      exact wt_zret hE (by decide) hR wp_ld_fill_d20
noncomputable def wp_ld_fill (n : Nat) (t0 : Nat) (σ : wt_St) : Option (Int32 × wt_St) :=
  (wp_ld_clear n t0 σ).bind fun q1 =>
  wt_it (wp_ld_fill_B6 n t0) n ((0 : Int32), q1)
set_option maxRecDepth 100000 in
set_option maxHeartbeats 4000000 in
theorem wp_ld_fill_ok {l : Launch} {w : wt_E} {n : Nat} {t0 : Nat} (hD : ∀ i, i < 108 → wt_dom w i) (hI_t0 : wt_isLead t0) (hT_t0 : ∀ j, j < 8 → wt_dom w (t0 + j)) {σ : wt_St} {q : Int32 × wt_St} (h : wp_ld_fill n t0 σ = some q) : wt_Ctr l w wt_y_ld_fill prog_2_method_5_code 3 (some .boolean) 7 [.ref (wt_ad w t0), .ref (wt_ad w 1)] σ (some q.1) q.2 := by
  refine wt_ctr wt_pl_ld_fill rfl (Nat.le_of_ble_eq_true rfl) [some (.ref (wt_ad w t0)), some (.ref (wt_ad w 1)), none] rfl ?_
  intro X hXl hXw hE hR
  subst hXl
  subst hXw
  have hE : wt_Ok X prog_2_method_5_code 3 "WornType$Lead" 7 0 := hE
  unfold wp_ld_fill at h
  refine wt_aload_n hE wp_ld_fill_d0 rfl ?_
  obtain ⟨q1, hq1, h⟩ := wt_bi h
  refine wt_callVv hE [] wt_lm_ld_33 wt_ya_ld_clear (wp_ld_clear_ok hI_t0 hT_t0 hq1) (by omega) (hT_t0 0 (Nat.le_of_ble_eq_true rfl)) (hI_t0.1) rfl rfl rfl (Nat.le_of_ble_eq_true rfl) (Nat.zero_le _) wp_ld_fill_d1 ?_
  refine wt_iconst hE (0 : Int32) wp_ld_fill_d4 wt_ci_0 ?_
  refine wt_istore_n hE [some (.ref (wt_ad (wt_xw X) t0)), some (.ref (wt_ad (wt_xw X) 1)), some (.int (0 : Int32))] wp_ld_fill_d5 (by decide) rfl ?_
  exact wt_it_ind (fun z => wt_V X 0 z.2 6 [some (.ref (wt_ad (wt_xw X) t0)), some (.ref (wt_ad (wt_xw X) 1)), some (.int z.1)] []) (fun K hK z h => wp_ld_fill_B6_ok hE hR hD hI_t0 hT_t0 hK h) n ((0 : Int32), q1) h
def wb12m2_prog_5_method_4_code_r0 : List (List Nat) := [42, 180, 0, 15, 2, 184, 0, 55, 42, 180, 0, 21, 2, 184, 0, 55, 177] :: []
set_option maxRecDepth 100000 in
theorem wb12m2_prog_5_method_4_code_c0 : wt_cs prog_5_method_4_code 0 wb12m2_prog_5_method_4_code_r0 := wt_cs_of (by decide +kernel)
theorem wp_st_clearPages_d0 : decode prog_5_method_4_code 0 = .ok (.aload_n 0, 1) := wt_op42 wb12m2_prog_5_method_4_code_c0 0 rfl rfl
theorem wp_st_clearPages_d1 : decode prog_5_method_4_code 1 = .ok (.getfield 15, 3) := wt_op180 wb12m2_prog_5_method_4_code_c0 1 rfl rfl rfl
theorem wp_st_clearPages_d4 : decode prog_5_method_4_code 4 = .ok (.iconst (-1), 1) := wt_op2 wb12m2_prog_5_method_4_code_c0 4 rfl rfl
theorem wp_st_clearPages_d5 : decode prog_5_method_4_code 5 = .ok (.invokestatic 55, 3) := wt_op184 wb12m2_prog_5_method_4_code_c0 5 rfl rfl rfl
theorem wp_st_clearPages_d8 : decode prog_5_method_4_code 8 = .ok (.aload_n 0, 1) := wt_op42 wb12m2_prog_5_method_4_code_c0 8 rfl rfl
theorem wp_st_clearPages_d9 : decode prog_5_method_4_code 9 = .ok (.getfield 21, 3) := wt_op180 wb12m2_prog_5_method_4_code_c0 9 rfl rfl rfl
theorem wp_st_clearPages_d12 : decode prog_5_method_4_code 12 = .ok (.iconst (-1), 1) := wt_op2 wb12m2_prog_5_method_4_code_c0 12 rfl rfl
theorem wp_st_clearPages_d13 : decode prog_5_method_4_code 13 = .ok (.invokestatic 55, 3) := wt_op184 wb12m2_prog_5_method_4_code_c0 13 rfl rfl rfl
theorem wp_st_clearPages_d16 : decode prog_5_method_4_code 16 = .ok (.return_, 1) := wt_op177 wb12m2_prog_5_method_4_code_c0 16 rfl rfl
noncomputable def wp_st_clearPages (n : Nat) (t0 : Nat) (σ : wt_St) : Option (wt_St) :=
  (wp_ap_fillRow n (t0 + 2) (-1 : Int32) σ).bind fun q1 =>
  (wp_ap_fillRow n (t0 + 4) (-1 : Int32) q1).bind fun q2 =>
  some q2
set_option maxRecDepth 100000 in
set_option maxHeartbeats 4000000 in
theorem wp_st_clearPages_ok {l : Launch} {w : wt_E} {n : Nat} {t0 : Nat} (hI_t0 : wt_isState t0) (hT_t0 : ∀ j, j < 9 → wt_dom w (t0 + j)) {σ : wt_St} {q : wt_St} (h : wp_st_clearPages n t0 σ = some q) : wt_Ctr l w wt_y_st_clearPages prog_5_method_4_code 1 none 1 [.ref (wt_ad w t0)] σ none q := by
  refine wt_ctr wt_pl_st_clearPages rfl (Nat.le_of_ble_eq_true rfl) [some (.ref (wt_ad w t0))] rfl ?_
  intro X hXl hXw hE hR
  subst hXl
  subst hXw
  have hE : wt_Ok X prog_5_method_4_code 1 "WornType$State" 1 0 := hE
  unfold wp_st_clearPages at h
  refine wt_aload_n hE wp_st_clearPages_d0 rfl ?_
  refine wt_getr hE (r := (t0 + 2)) wt_lf_st_15 (hT_t0 0 (Nat.le_of_ble_eq_true rfl)) (hI_t0.1) rfl wp_st_clearPages_d1 ?_
  refine wt_iconst hE (-1 : Int32) wp_st_clearPages_d4 wt_ci_m1 ?_
  obtain ⟨q1, hq1, h⟩ := wt_bi h
  refine wt_callSv hE [.ref (wt_ad (wt_xw X) ((t0 + 2))), .int (-1 : Int32)] wt_lm_st_55 wt_ya_ap_fillRow (wp_ap_fillRow_ok (wt_lnE (wt_isState_L2 hI_t0)) (hT_t0 2 (Nat.le_of_ble_eq_true rfl)) hq1) (by omega) rfl rfl (Nat.le_of_ble_eq_true rfl) (Nat.zero_le _) wp_st_clearPages_d5 ?_
  refine wt_aload_n hE wp_st_clearPages_d8 rfl ?_
  refine wt_getr hE (r := (t0 + 4)) wt_lf_st_21 (hT_t0 0 (Nat.le_of_ble_eq_true rfl)) (hI_t0.1) rfl wp_st_clearPages_d9 ?_
  refine wt_iconst hE (-1 : Int32) wp_st_clearPages_d12 wt_ci_m1 ?_
  obtain ⟨q2, hq2, h⟩ := wt_bi h
  refine wt_callSv hE [.ref (wt_ad (wt_xw X) ((t0 + 4))), .int (-1 : Int32)] wt_lm_st_55 wt_ya_ap_fillRow (wp_ap_fillRow_ok (wt_lnE (wt_isState_L4 hI_t0)) (hT_t0 4 (Nat.le_of_ble_eq_true rfl)) hq2) (by omega) rfl rfl (Nat.le_of_ble_eq_true rfl) (Nat.zero_le _) wp_st_clearPages_d13 ?_
  cases h
  exact wt_vret hE hR wp_st_clearPages_d16
def wb12m2_prog_5_method_3_code_r0 : List (List Nat) := [43, 180, 0, 50, 42, 180, 0, 9, 184, 0, 39, 42, 182, 0, 36, 177] :: []
set_option maxRecDepth 100000 in
theorem wb12m2_prog_5_method_3_code_c0 : wt_cs prog_5_method_3_code 0 wb12m2_prog_5_method_3_code_r0 := wt_cs_of (by decide +kernel)
theorem wp_st_lay_d0 : decode prog_5_method_3_code 0 = .ok (.aload_n 1, 1) := wt_op43 wb12m2_prog_5_method_3_code_c0 0 rfl rfl
theorem wp_st_lay_d1 : decode prog_5_method_3_code 1 = .ok (.getfield 50, 3) := wt_op180 wb12m2_prog_5_method_3_code_c0 1 rfl rfl rfl
theorem wp_st_lay_d4 : decode prog_5_method_3_code 4 = .ok (.aload_n 0, 1) := wt_op42 wb12m2_prog_5_method_3_code_c0 4 rfl rfl
theorem wp_st_lay_d5 : decode prog_5_method_3_code 5 = .ok (.getfield 9, 3) := wt_op180 wb12m2_prog_5_method_3_code_c0 5 rfl rfl rfl
theorem wp_st_lay_d8 : decode prog_5_method_3_code 8 = .ok (.invokestatic 39, 3) := wt_op184 wb12m2_prog_5_method_3_code_c0 8 rfl rfl rfl
theorem wp_st_lay_d11 : decode prog_5_method_3_code 11 = .ok (.aload_n 0, 1) := wt_op42 wb12m2_prog_5_method_3_code_c0 11 rfl rfl
theorem wp_st_lay_d12 : decode prog_5_method_3_code 12 = .ok (.invokevirtual 36, 3) := wt_op182 wb12m2_prog_5_method_3_code_c0 12 rfl rfl rfl
theorem wp_st_lay_d15 : decode prog_5_method_3_code 15 = .ok (.return_, 1) := wt_op177 wb12m2_prog_5_method_3_code_c0 15 rfl rfl
noncomputable def wp_st_lay (n : Nat) (t0 : Nat) (t1 : Nat) (σ : wt_St) : Option (wt_St) :=
  (wp_ap_copyRow n (t1 + 2) (t0 + 1) σ).bind fun q1 =>
  (wp_st_clearPages n t0 q1).bind fun q2 =>
  some q2
set_option maxRecDepth 100000 in
set_option maxHeartbeats 4000000 in
theorem wp_st_lay_ok {l : Launch} {w : wt_E} {n : Nat} {t0 : Nat} {t1 : Nat} (hI_t0 : wt_isState t0) (hT_t0 : ∀ j, j < 9 → wt_dom w (t0 + j)) (hI_t1 : wt_isLead t1) (hT_t1 : ∀ j, j < 8 → wt_dom w (t1 + j)) {σ : wt_St} {q : wt_St} (h : wp_st_lay n t0 t1 σ = some q) : wt_Ctr l w wt_y_st_lay prog_5_method_3_code 2 none 2 [.ref (wt_ad w t0), .ref (wt_ad w t1)] σ none q := by
  refine wt_ctr wt_pl_st_lay rfl (Nat.le_of_ble_eq_true rfl) [some (.ref (wt_ad w t0)), some (.ref (wt_ad w t1))] rfl ?_
  intro X hXl hXw hE hR
  subst hXl
  subst hXw
  have hE : wt_Ok X prog_5_method_3_code 2 "WornType$State" 2 0 := hE
  unfold wp_st_lay at h
  refine wt_aload_n hE wp_st_lay_d0 rfl ?_
  refine wt_getr hE (r := (t1 + 2)) wt_lf_st_50 (hT_t1 0 (Nat.le_of_ble_eq_true rfl)) (hI_t1.1) rfl wp_st_lay_d1 ?_
  refine wt_aload_n hE wp_st_lay_d4 rfl ?_
  refine wt_getr hE (r := (t0 + 1)) wt_lf_st_9 (hT_t0 0 (Nat.le_of_ble_eq_true rfl)) (hI_t0.1) rfl wp_st_lay_d5 ?_
  obtain ⟨q1, hq1, h⟩ := wt_bi h
  refine wt_callSv hE [.ref (wt_ad (wt_xw X) ((t1 + 2))), .ref (wt_ad (wt_xw X) ((t0 + 1)))] wt_lm_st_39 wt_ya_ap_copyRow (wp_ap_copyRow_ok (wt_lnE (wt_isLead_L2 hI_t1)) (hT_t1 2 (Nat.le_of_ble_eq_true rfl)) (wt_lnE (wt_isState_L1 hI_t0)) (hT_t0 1 (Nat.le_of_ble_eq_true rfl)) hq1) (by omega) rfl rfl (Nat.le_of_ble_eq_true rfl) (Nat.zero_le _) wp_st_lay_d8 ?_
  refine wt_aload_n hE wp_st_lay_d11 rfl ?_
  obtain ⟨q2, hq2, h⟩ := wt_bi h
  refine wt_callVv hE [] wt_lm_st_36 wt_ya_st_clearPages (wp_st_clearPages_ok hI_t0 hT_t0 hq2) (by omega) (hT_t0 0 (Nat.le_of_ble_eq_true rfl)) (hI_t0.1) rfl rfl rfl (Nat.le_of_ble_eq_true rfl) (Nat.zero_le _) wp_st_lay_d12 ?_
  cases h
  exact wt_vret hE hR wp_st_lay_d15
def wb12m2_prog_6_method_3_code_r0 : List (List Nat) := [3, 60, 3, 61, 28, 16, 26, 162, 0, 17, 27, 42, 28, 182, 0, 29, 96, 60, 132, 2, 1, 167, 255, 239, 27, 172] :: []
set_option maxRecDepth 100000 in
theorem wb12m2_prog_6_method_3_code_c0 : wt_cs prog_6_method_3_code 0 wb12m2_prog_6_method_3_code_r0 := wt_cs_of (by decide +kernel)
theorem wp_sk_piecesOfAll_d0 : decode prog_6_method_3_code 0 = .ok (.iconst 0, 1) := wt_op3 wb12m2_prog_6_method_3_code_c0 0 rfl rfl
theorem wp_sk_piecesOfAll_d1 : decode prog_6_method_3_code 1 = .ok (.istore_n 1, 1) := wt_op60 wb12m2_prog_6_method_3_code_c0 1 rfl rfl
theorem wp_sk_piecesOfAll_d2 : decode prog_6_method_3_code 2 = .ok (.iconst 0, 1) := wt_op3 wb12m2_prog_6_method_3_code_c0 2 rfl rfl
theorem wp_sk_piecesOfAll_d3 : decode prog_6_method_3_code 3 = .ok (.istore_n 2, 1) := wt_op61 wb12m2_prog_6_method_3_code_c0 3 rfl rfl
theorem wp_sk_piecesOfAll_d4 : decode prog_6_method_3_code 4 = .ok (.iload_n 2, 1) := wt_op28 wb12m2_prog_6_method_3_code_c0 4 rfl rfl
theorem wp_sk_piecesOfAll_d5 : decode prog_6_method_3_code 5 = .ok (.bipush 26, 2) := wt_op16 wb12m2_prog_6_method_3_code_c0 5 rfl rfl rfl
theorem wp_sk_piecesOfAll_d7 : decode prog_6_method_3_code 7 = .ok (.if_icmp .ge 17, 3) := wt_op162 wb12m2_prog_6_method_3_code_c0 7 rfl rfl rfl
theorem wp_sk_piecesOfAll_d10 : decode prog_6_method_3_code 10 = .ok (.iload_n 1, 1) := wt_op27 wb12m2_prog_6_method_3_code_c0 10 rfl rfl
theorem wp_sk_piecesOfAll_d11 : decode prog_6_method_3_code 11 = .ok (.aload_n 0, 1) := wt_op42 wb12m2_prog_6_method_3_code_c0 11 rfl rfl
theorem wp_sk_piecesOfAll_d12 : decode prog_6_method_3_code 12 = .ok (.iload_n 2, 1) := wt_op28 wb12m2_prog_6_method_3_code_c0 12 rfl rfl
theorem wp_sk_piecesOfAll_d13 : decode prog_6_method_3_code 13 = .ok (.invokevirtual 29, 3) := wt_op182 wb12m2_prog_6_method_3_code_c0 13 rfl rfl rfl
theorem wp_sk_piecesOfAll_d16 : decode prog_6_method_3_code 16 = .ok (.iadd, 1) := wt_op96 wb12m2_prog_6_method_3_code_c0 16 rfl rfl
theorem wp_sk_piecesOfAll_d17 : decode prog_6_method_3_code 17 = .ok (.istore_n 1, 1) := wt_op60 wb12m2_prog_6_method_3_code_c0 17 rfl rfl
theorem wp_sk_piecesOfAll_d18 : decode prog_6_method_3_code 18 = .ok (.iinc 2 1, 3) := wt_op132 wb12m2_prog_6_method_3_code_c0 18 rfl rfl rfl
theorem wp_sk_piecesOfAll_d21 : decode prog_6_method_3_code 21 = .ok (.goto (-17), 3) := wt_op167 wb12m2_prog_6_method_3_code_c0 21 rfl rfl rfl
theorem wp_sk_piecesOfAll_d24 : decode prog_6_method_3_code 24 = .ok (.iload_n 1, 1) := wt_op27 wb12m2_prog_6_method_3_code_c0 24 rfl rfl
theorem wp_sk_piecesOfAll_d25 : decode prog_6_method_3_code 25 = .ok (.ireturn, 1) := wt_op172 wb12m2_prog_6_method_3_code_c0 25 rfl rfl
noncomputable def wp_sk_piecesOfAll_B4 (n : Nat) (K4 : Int32 × Int32 × wt_St → Option (Int32 × wt_St)) (s : Int32 × Int32 × wt_St) : Option (Int32 × wt_St) :=
  if (26 : Int32) ≤ s.2.1 then
    some (s.1, s.2.2)
  else
    (wp_sk_pieces n s.2.1 s.2.2).bind fun q2 =>
    K4 ((s.1 + q2.1), (s.2.1 + (1 : Int32)), q2.2)
set_option maxRecDepth 100000 in
set_option maxHeartbeats 4000000 in
theorem wp_sk_piecesOfAll_B4_ok  {X : wt_X} {n : Nat} {res : Int32 × wt_St} (hE : wt_Ok X prog_6_method_3_code 3 "WornType$Stock" 2 0) (hR : wt_Rt X (some .int) (some res.1) res.2) (hD : ∀ i, i < 108 → wt_dom (wt_xw X) i)  {K4 : Int32 × Int32 × wt_St → Option (Int32 × wt_St)} (hK4 : ∀ s : Int32 × Int32 × wt_St, K4 s = some res → wt_V X 0 s.2.2 4 [some (.ref (wt_ad (wt_xw X) 76)), some (.int s.1), some (.int s.2.1)] []) {s : Int32 × Int32 × wt_St} (h : wp_sk_piecesOfAll_B4 n K4 s = some res) : wt_V X 0 s.2.2 4 [some (.ref (wt_ad (wt_xw X) 76)), some (.int s.1), some (.int s.2.1)] [] := by
  unfold wp_sk_piecesOfAll_B4 at h
  refine wt_iload_n hE wp_sk_piecesOfAll_d4 rfl ?_
  refine wt_bipush hE (26 : Int32) wp_sk_piecesOfAll_d5 wt_cb_26 ?_
  refine wt_icmp_ge hE 24 wp_sk_piecesOfAll_d7 rfl (fun c1 => ?_) (fun c1 => ?_)
  · have h := wt_ip c1 h
    refine wt_iload_n hE wp_sk_piecesOfAll_d24 rfl ?_
    cases h
    exact wt_iret hE hR wp_sk_piecesOfAll_d25
  · have h := wt_in c1 h
    refine wt_iload_n hE wp_sk_piecesOfAll_d10 rfl ?_
    refine wt_aload_n hE wp_sk_piecesOfAll_d11 rfl ?_
    refine wt_iload_n hE wp_sk_piecesOfAll_d12 rfl ?_
    obtain ⟨q2, hq2, h⟩ := wt_bi h
    refine wt_callVi hE [.int s.2.1] wt_lm_sk_29 wt_ya_sk_pieces (wp_sk_pieces_ok hD hq2) (by omega) (hD 76 (Nat.le_of_ble_eq_true rfl)) wt_L76 rfl rfl rfl (Nat.le_of_ble_eq_true rfl) (Nat.zero_le _) wp_sk_piecesOfAll_d13 (fun hbq2 => ?_)
    refine wt_iadd hE wp_sk_piecesOfAll_d16 ?_
    refine wt_istore_n hE [some (.ref (wt_ad (wt_xw X) 76)), some (.int (s.1 + q2.1)), some (.int s.2.1)] wp_sk_piecesOfAll_d17 (by decide) rfl ?_
    refine wt_iinc hE (s.2.1 + (1 : Int32)) [some (.ref (wt_ad (wt_xw X) 76)), some (.int (s.1 + q2.1)), some (.int (s.2.1 + (1 : Int32)))] wp_sk_piecesOfAll_d18 (by decide) rfl rfl rfl ?_
    refine wt_goto hE 4 wp_sk_piecesOfAll_d21 rfl ?_
    exact hK4 ((s.1 + q2.1), (s.2.1 + (1 : Int32)), q2.2) h
noncomputable def wp_sk_piecesOfAll (n : Nat) (σ : wt_St) : Option (Int32 × wt_St) :=
  wt_it (wp_sk_piecesOfAll_B4 n) n ((0 : Int32), (0 : Int32), σ)
set_option maxRecDepth 100000 in
set_option maxHeartbeats 4000000 in
theorem wp_sk_piecesOfAll_ok {l : Launch} {w : wt_E} {n : Nat} (hD : ∀ i, i < 108 → wt_dom w i) {σ : wt_St} {q : Int32 × wt_St} (h : wp_sk_piecesOfAll n σ = some q) : wt_Ctr l w wt_y_sk_piecesOfAll prog_6_method_3_code 3 (some .int) 2 [.ref (wt_ad w 76)] σ (some q.1) q.2 := by
  refine wt_ctr wt_pl_sk_piecesOfAll rfl (Nat.le_of_ble_eq_true rfl) [some (.ref (wt_ad w 76)), none, none] rfl ?_
  intro X hXl hXw hE hR
  subst hXl
  subst hXw
  have hE : wt_Ok X prog_6_method_3_code 3 "WornType$Stock" 2 0 := hE
  unfold wp_sk_piecesOfAll at h
  refine wt_iconst hE (0 : Int32) wp_sk_piecesOfAll_d0 wt_ci_0 ?_
  refine wt_istore_n hE [some (.ref (wt_ad (wt_xw X) 76)), some (.int (0 : Int32)), none] wp_sk_piecesOfAll_d1 (by decide) rfl ?_
  refine wt_iconst hE (0 : Int32) wp_sk_piecesOfAll_d2 wt_ci_0 ?_
  refine wt_istore_n hE [some (.ref (wt_ad (wt_xw X) 76)), some (.int (0 : Int32)), some (.int (0 : Int32))] wp_sk_piecesOfAll_d3 (by decide) rfl ?_
  exact wt_it_ind (fun z => wt_V X 0 z.2.2 4 [some (.ref (wt_ad (wt_xw X) 76)), some (.int z.1), some (.int z.2.1)] []) (fun K hK z h => wp_sk_piecesOfAll_B4_ok hE hR hD hK h) n ((0 : Int32), (0 : Int32), σ) h
def wb12m2_prog_7_method_3_code_r1 : List (List Nat) := [177] :: []
def wb12m2_prog_7_method_3_code_r0 : List (List Nat) := [42, 3, 181, 0, 22, 42, 27, 181, 0, 29, 42, 3, 181, 0, 32, 42, 3, 181, 0, 35, 42, 3, 181, 0, 38, 42, 2, 181, 0, 18] :: wb12m2_prog_7_method_3_code_r1
set_option maxRecDepth 100000 in
theorem wb12m2_prog_7_method_3_code_c0 : wt_cs prog_7_method_3_code 0 wb12m2_prog_7_method_3_code_r0 := wt_cs_of (by decide +kernel)
theorem wb12m2_prog_7_method_3_code_c1 : wt_cs prog_7_method_3_code 30 wb12m2_prog_7_method_3_code_r1 := wt_cs_tl (m := 30) wb12m2_prog_7_method_3_code_c0 rfl rfl
theorem wp_tp_begin_d0 : decode prog_7_method_3_code 0 = .ok (.aload_n 0, 1) := wt_op42 wb12m2_prog_7_method_3_code_c0 0 rfl rfl
theorem wp_tp_begin_d1 : decode prog_7_method_3_code 1 = .ok (.iconst 0, 1) := wt_op3 wb12m2_prog_7_method_3_code_c0 1 rfl rfl
theorem wp_tp_begin_d2 : decode prog_7_method_3_code 2 = .ok (.putfield 22, 3) := wt_op181 wb12m2_prog_7_method_3_code_c0 2 rfl rfl rfl
theorem wp_tp_begin_d5 : decode prog_7_method_3_code 5 = .ok (.aload_n 0, 1) := wt_op42 wb12m2_prog_7_method_3_code_c0 5 rfl rfl
theorem wp_tp_begin_d6 : decode prog_7_method_3_code 6 = .ok (.iload_n 1, 1) := wt_op27 wb12m2_prog_7_method_3_code_c0 6 rfl rfl
theorem wp_tp_begin_d7 : decode prog_7_method_3_code 7 = .ok (.putfield 29, 3) := wt_op181 wb12m2_prog_7_method_3_code_c0 7 rfl rfl rfl
theorem wp_tp_begin_d10 : decode prog_7_method_3_code 10 = .ok (.aload_n 0, 1) := wt_op42 wb12m2_prog_7_method_3_code_c0 10 rfl rfl
theorem wp_tp_begin_d11 : decode prog_7_method_3_code 11 = .ok (.iconst 0, 1) := wt_op3 wb12m2_prog_7_method_3_code_c0 11 rfl rfl
theorem wp_tp_begin_d12 : decode prog_7_method_3_code 12 = .ok (.putfield 32, 3) := wt_op181 wb12m2_prog_7_method_3_code_c0 12 rfl rfl rfl
theorem wp_tp_begin_d15 : decode prog_7_method_3_code 15 = .ok (.aload_n 0, 1) := wt_op42 wb12m2_prog_7_method_3_code_c0 15 rfl rfl
theorem wp_tp_begin_d16 : decode prog_7_method_3_code 16 = .ok (.iconst 0, 1) := wt_op3 wb12m2_prog_7_method_3_code_c0 16 rfl rfl
theorem wp_tp_begin_d17 : decode prog_7_method_3_code 17 = .ok (.putfield 35, 3) := wt_op181 wb12m2_prog_7_method_3_code_c0 17 rfl rfl rfl
theorem wp_tp_begin_d20 : decode prog_7_method_3_code 20 = .ok (.aload_n 0, 1) := wt_op42 wb12m2_prog_7_method_3_code_c0 20 rfl rfl
theorem wp_tp_begin_d21 : decode prog_7_method_3_code 21 = .ok (.iconst 0, 1) := wt_op3 wb12m2_prog_7_method_3_code_c0 21 rfl rfl
theorem wp_tp_begin_d22 : decode prog_7_method_3_code 22 = .ok (.putfield 38, 3) := wt_op181 wb12m2_prog_7_method_3_code_c0 22 rfl rfl rfl
theorem wp_tp_begin_d25 : decode prog_7_method_3_code 25 = .ok (.aload_n 0, 1) := wt_op42 wb12m2_prog_7_method_3_code_c0 25 rfl rfl
theorem wp_tp_begin_d26 : decode prog_7_method_3_code 26 = .ok (.iconst (-1), 1) := wt_op2 wb12m2_prog_7_method_3_code_c0 26 rfl rfl
theorem wp_tp_begin_d27 : decode prog_7_method_3_code 27 = .ok (.putfield 18, 3) := wt_op181 wb12m2_prog_7_method_3_code_c0 27 rfl rfl rfl
theorem wp_tp_begin_d30 : decode prog_7_method_3_code 30 = .ok (.return_, 1) := wt_op177 wb12m2_prog_7_method_3_code_c1 0 rfl rfl
noncomputable def wp_tp_begin (n : Nat) (x1 : Int32) (σ : wt_St) : Option (wt_St) :=
  some (wt_sf (wt_sf (wt_sf (wt_sf (wt_sf (wt_sf σ 1 2 (0 : Int32)) 1 3 x1) 1 4 (0 : Int32)) 1 5 (0 : Int32)) 1 6 (0 : Int32)) 1 7 (-1 : Int32))
set_option maxRecDepth 100000 in
set_option maxHeartbeats 4000000 in
theorem wp_tp_begin_ok {l : Launch} {w : wt_E} {n : Nat} {x1 : Int32} (hD : ∀ i, i < 108 → wt_dom w i) {σ : wt_St} {q : wt_St} (h : wp_tp_begin n x1 σ = some q) : wt_Ctr l w wt_y_tp_begin prog_7_method_3_code 2 none 0 [.ref (wt_ad w 1), .int x1] σ none q := by
  refine wt_ctr wt_pl_tp_begin rfl (Nat.le_of_ble_eq_true rfl) [some (.ref (wt_ad w 1)), some (.int x1)] rfl ?_
  intro X hXl hXw hE hR
  subst hXl
  subst hXw
  have hE : wt_Ok X prog_7_method_3_code 2 "WornType$Tape" 0 0 := hE
  unfold wp_tp_begin at h
  refine wt_aload_n hE wp_tp_begin_d0 rfl ?_
  refine wt_iconst hE (0 : Int32) wp_tp_begin_d1 wt_ci_0 ?_
  refine wt_puti hE wt_lf_tp_22 (hD 1 (Nat.le_of_ble_eq_true rfl)) wt_L1 rfl (fun q hq => by cases hq; rfl) wp_tp_begin_d2 ?_
  refine wt_aload_n hE wp_tp_begin_d5 rfl ?_
  refine wt_iload_n hE wp_tp_begin_d6 rfl ?_
  refine wt_puti hE wt_lf_tp_29 (hD 1 (Nat.le_of_ble_eq_true rfl)) wt_L1 rfl (fun q hq => by cases hq; rfl) wp_tp_begin_d7 ?_
  refine wt_aload_n hE wp_tp_begin_d10 rfl ?_
  refine wt_iconst hE (0 : Int32) wp_tp_begin_d11 wt_ci_0 ?_
  refine wt_puti hE wt_lf_tp_32 (hD 1 (Nat.le_of_ble_eq_true rfl)) wt_L1 rfl (fun q hq => by cases hq; rfl) wp_tp_begin_d12 ?_
  refine wt_aload_n hE wp_tp_begin_d15 rfl ?_
  refine wt_iconst hE (0 : Int32) wp_tp_begin_d16 wt_ci_0 ?_
  refine wt_puti hE wt_lf_tp_35 (hD 1 (Nat.le_of_ble_eq_true rfl)) wt_L1 rfl (fun q hq => by cases hq; rfl) wp_tp_begin_d17 ?_
  refine wt_aload_n hE wp_tp_begin_d20 rfl ?_
  refine wt_iconst hE (0 : Int32) wp_tp_begin_d21 wt_ci_0 ?_
  refine wt_puti hE wt_lf_tp_38 (hD 1 (Nat.le_of_ble_eq_true rfl)) wt_L1 rfl (fun q hq => by cases hq; rfl) wp_tp_begin_d22 ?_
  refine wt_aload_n hE wp_tp_begin_d25 rfl ?_
  refine wt_iconst hE (-1 : Int32) wp_tp_begin_d26 wt_ci_m1 ?_
  refine wt_puti hE wt_lf_tp_18 (hD 1 (Nat.le_of_ble_eq_true rfl)) wt_L1 rfl (fun q hq => by cases hq; rfl) wp_tp_begin_d27 ?_
  cases h
  exact wt_vret hE hR wp_tp_begin_d30
def wb12m2_prog_4_method_11_code_r1 : List (List Nat) := [172] :: []
def wb12m2_prog_4_method_11_code_r0 : List (List Nat) := [42, 180, 0, 31, 28, 8, 104, 29, 96, 42, 180, 0, 15, 42, 180, 0, 19, 27, 28, 182, 0, 72, 182, 0, 78, 100, 184, 0, 53] :: wb12m2_prog_4_method_11_code_r1
set_option maxRecDepth 100000 in
theorem wb12m2_prog_4_method_11_code_c0 : wt_cs prog_4_method_11_code 0 wb12m2_prog_4_method_11_code_r0 := wt_cs_of (by decide +kernel)
theorem wb12m2_prog_4_method_11_code_c1 : wt_cs prog_4_method_11_code 29 wb12m2_prog_4_method_11_code_r1 := wt_cs_tl (m := 29) wb12m2_prog_4_method_11_code_c0 rfl rfl
theorem wp_rw_sumAt_d0 : decode prog_4_method_11_code 0 = .ok (.aload_n 0, 1) := wt_op42 wb12m2_prog_4_method_11_code_c0 0 rfl rfl
theorem wp_rw_sumAt_d1 : decode prog_4_method_11_code 1 = .ok (.getfield 31, 3) := wt_op180 wb12m2_prog_4_method_11_code_c0 1 rfl rfl rfl
theorem wp_rw_sumAt_d4 : decode prog_4_method_11_code 4 = .ok (.iload_n 2, 1) := wt_op28 wb12m2_prog_4_method_11_code_c0 4 rfl rfl
theorem wp_rw_sumAt_d5 : decode prog_4_method_11_code 5 = .ok (.iconst 5, 1) := wt_op8 wb12m2_prog_4_method_11_code_c0 5 rfl rfl
theorem wp_rw_sumAt_d6 : decode prog_4_method_11_code 6 = .ok (.imul, 1) := wt_op104 wb12m2_prog_4_method_11_code_c0 6 rfl rfl
theorem wp_rw_sumAt_d7 : decode prog_4_method_11_code 7 = .ok (.iload_n 3, 1) := wt_op29 wb12m2_prog_4_method_11_code_c0 7 rfl rfl
theorem wp_rw_sumAt_d8 : decode prog_4_method_11_code 8 = .ok (.iadd, 1) := wt_op96 wb12m2_prog_4_method_11_code_c0 8 rfl rfl
theorem wp_rw_sumAt_d9 : decode prog_4_method_11_code 9 = .ok (.aload_n 0, 1) := wt_op42 wb12m2_prog_4_method_11_code_c0 9 rfl rfl
theorem wp_rw_sumAt_d10 : decode prog_4_method_11_code 10 = .ok (.getfield 15, 3) := wt_op180 wb12m2_prog_4_method_11_code_c0 10 rfl rfl rfl
theorem wp_rw_sumAt_d13 : decode prog_4_method_11_code 13 = .ok (.aload_n 0, 1) := wt_op42 wb12m2_prog_4_method_11_code_c0 13 rfl rfl
theorem wp_rw_sumAt_d14 : decode prog_4_method_11_code 14 = .ok (.getfield 19, 3) := wt_op180 wb12m2_prog_4_method_11_code_c0 14 rfl rfl rfl
theorem wp_rw_sumAt_d17 : decode prog_4_method_11_code 17 = .ok (.iload_n 1, 1) := wt_op27 wb12m2_prog_4_method_11_code_c0 17 rfl rfl
theorem wp_rw_sumAt_d18 : decode prog_4_method_11_code 18 = .ok (.iload_n 2, 1) := wt_op28 wb12m2_prog_4_method_11_code_c0 18 rfl rfl
theorem wp_rw_sumAt_d19 : decode prog_4_method_11_code 19 = .ok (.invokevirtual 72, 3) := wt_op182 wb12m2_prog_4_method_11_code_c0 19 rfl rfl rfl
theorem wp_rw_sumAt_d22 : decode prog_4_method_11_code 22 = .ok (.invokevirtual 78, 3) := wt_op182 wb12m2_prog_4_method_11_code_c0 22 rfl rfl rfl
theorem wp_rw_sumAt_d25 : decode prog_4_method_11_code 25 = .ok (.isub, 1) := wt_op100 wb12m2_prog_4_method_11_code_c0 25 rfl rfl
theorem wp_rw_sumAt_d26 : decode prog_4_method_11_code 26 = .ok (.invokestatic 53, 3) := wt_op184 wb12m2_prog_4_method_11_code_c0 26 rfl rfl rfl
theorem wp_rw_sumAt_d29 : decode prog_4_method_11_code 29 = .ok (.ireturn, 1) := wt_op172 wb12m2_prog_4_method_11_code_c1 0 rfl rfl
noncomputable def wp_rw_sumAt (n : Nat) (x1 : Int32) (x2 : Int32) (x3 : Int32) (σ : wt_St) : Option (Int32 × wt_St) :=
  (wp_tx_wordAt n x1 x2 σ).bind fun q1 =>
  (wp_tg_firstLike n 20 q1.1 q1.2).bind fun q2 =>
  (wp_ap_look n 82 (((x2 * (5 : Int32)) + x3) - q2.1) q2.2).bind fun q3 =>
  some (q3.1, q3.2)
set_option maxRecDepth 100000 in
set_option maxHeartbeats 4000000 in
theorem wp_rw_sumAt_ok {l : Launch} {w : wt_E} {n : Nat} {x1 : Int32} {x2 : Int32} {x3 : Int32} (hD : ∀ i, i < 108 → wt_dom w i) {σ : wt_St} {q : Int32 × wt_St} (h : wp_rw_sumAt n x1 x2 x3 σ = some q) : wt_Ctr l w wt_y_rw_sumAt prog_4_method_11_code 4 (some .int) 3 [.ref (wt_ad w 81), .int x1, .int x2, .int x3] σ (some q.1) q.2 := by
  refine wt_ctr wt_pl_rw_sumAt rfl (Nat.le_of_ble_eq_true rfl) [some (.ref (wt_ad w 81)), some (.int x1), some (.int x2), some (.int x3)] rfl ?_
  intro X hXl hXw hE hR
  subst hXl
  subst hXw
  have hE : wt_Ok X prog_4_method_11_code 4 "WornType$Rows" 3 0 := hE
  unfold wp_rw_sumAt at h
  refine wt_aload_n hE wp_rw_sumAt_d0 rfl ?_
  refine wt_getr hE (r := 82) wt_lf_rw_31 (hD 81 (Nat.le_of_ble_eq_true rfl)) wt_L81 rfl wp_rw_sumAt_d1 ?_
  refine wt_iload_n hE wp_rw_sumAt_d4 rfl ?_
  refine wt_iconst hE (5 : Int32) wp_rw_sumAt_d5 wt_ci_5 ?_
  refine wt_imul hE wp_rw_sumAt_d6 ?_
  refine wt_iload_n hE wp_rw_sumAt_d7 rfl ?_
  refine wt_iadd hE wp_rw_sumAt_d8 ?_
  refine wt_aload_n hE wp_rw_sumAt_d9 rfl ?_
  refine wt_getr hE (r := 20) wt_lf_rw_15 (hD 81 (Nat.le_of_ble_eq_true rfl)) wt_L81 rfl wp_rw_sumAt_d10 ?_
  refine wt_aload_n hE wp_rw_sumAt_d13 rfl ?_
  refine wt_getr hE (r := 34) wt_lf_rw_19 (hD 81 (Nat.le_of_ble_eq_true rfl)) wt_L81 rfl wp_rw_sumAt_d14 ?_
  refine wt_iload_n hE wp_rw_sumAt_d17 rfl ?_
  refine wt_iload_n hE wp_rw_sumAt_d18 rfl ?_
  obtain ⟨q1, hq1, h⟩ := wt_bi h
  refine wt_callVi hE [.int x1, .int x2] wt_lm_rw_72 wt_ya_tx_wordAt (wp_tx_wordAt_ok hD hq1) (by omega) (hD 34 (Nat.le_of_ble_eq_true rfl)) wt_L34 rfl rfl rfl (Nat.le_of_ble_eq_true rfl) (Nat.zero_le _) wp_rw_sumAt_d19 (fun hbq1 => ?_)
  obtain ⟨q2, hq2, h⟩ := wt_bi h
  refine wt_callVi hE [.int q1.1] wt_lm_rw_78 wt_ya_tg_firstLike (wp_tg_firstLike_ok wt_isTongue_20 (fun j hj => hD (20 + j) (by omega)) hq2) (by omega) (hD 20 (Nat.le_of_ble_eq_true rfl)) wt_L20 rfl rfl rfl (Nat.le_of_ble_eq_true rfl) (Nat.zero_le _) wp_rw_sumAt_d22 (fun hbq2 => ?_)
  refine wt_isub hE wp_rw_sumAt_d25 ?_
  obtain ⟨q3, hq3, h⟩ := wt_bi h
  refine wt_callSi hE [.ref (wt_ad (wt_xw X) 82), .int (((x2 * (5 : Int32)) + x3) - q2.1)] wt_lm_rw_53 wt_ya_ap_look (wp_ap_look_ok (wt_lnE wt_L82) (hD 82 (Nat.le_of_ble_eq_true rfl)) hq3) (by omega) rfl rfl (Nat.le_of_ble_eq_true rfl) (Nat.zero_le _) wp_rw_sumAt_d26 (fun hbq3 => ?_)
  cases h
  exact wt_iret hE hR wp_rw_sumAt_d29
def wb12m2_prog_4_method_14_code_r3 : List (List Nat) := [21, 8, 54, 5, 21, 9, 54, 6, 132, 7, 1, 167, 255, 182, 21, 5, 172] :: []
def wb12m2_prog_4_method_14_code_r2 : List (List Nat) := [182, 0, 95, 54, 9, 21, 9, 2, 159, 0, 28, 21, 9, 21, 6, 162, 0, 21, 42, 29, 21, 8, 182, 0, 120, 153, 0, 11] :: wb12m2_prog_4_method_14_code_r3
def wb12m2_prog_4_method_14_code_r1 : List (List Nat) := [21, 4, 182, 0, 75, 162, 0, 66, 42, 180, 0, 15, 21, 4, 182, 0, 78, 21, 7, 96, 54, 8, 42, 27, 28, 4, 96, 21, 8] :: wb12m2_prog_4_method_14_code_r2
def wb12m2_prog_4_method_14_code_r0 : List (List Nat) := [42, 180, 0, 19, 27, 28, 4, 96, 182, 0, 72, 54, 4, 2, 54, 5, 18, 131, 54, 6, 3, 54, 7, 21, 7, 42, 180, 0, 15] :: wb12m2_prog_4_method_14_code_r1
set_option maxRecDepth 100000 in
theorem wb12m2_prog_4_method_14_code_c0 : wt_cs prog_4_method_14_code 0 wb12m2_prog_4_method_14_code_r0 := wt_cs_of (by decide +kernel)
theorem wb12m2_prog_4_method_14_code_c1 : wt_cs prog_4_method_14_code 29 wb12m2_prog_4_method_14_code_r1 := wt_cs_tl (m := 29) wb12m2_prog_4_method_14_code_c0 rfl rfl
theorem wb12m2_prog_4_method_14_code_c2 : wt_cs prog_4_method_14_code 58 wb12m2_prog_4_method_14_code_r2 := wt_cs_tl (m := 29) wb12m2_prog_4_method_14_code_c1 rfl rfl
theorem wb12m2_prog_4_method_14_code_c3 : wt_cs prog_4_method_14_code 86 wb12m2_prog_4_method_14_code_r3 := wt_cs_tl (m := 28) wb12m2_prog_4_method_14_code_c2 rfl rfl
theorem wp_rw_cheapestBehind_d0 : decode prog_4_method_14_code 0 = .ok (.aload_n 0, 1) := wt_op42 wb12m2_prog_4_method_14_code_c0 0 rfl rfl
theorem wp_rw_cheapestBehind_d1 : decode prog_4_method_14_code 1 = .ok (.getfield 19, 3) := wt_op180 wb12m2_prog_4_method_14_code_c0 1 rfl rfl rfl
theorem wp_rw_cheapestBehind_d4 : decode prog_4_method_14_code 4 = .ok (.iload_n 1, 1) := wt_op27 wb12m2_prog_4_method_14_code_c0 4 rfl rfl
theorem wp_rw_cheapestBehind_d5 : decode prog_4_method_14_code 5 = .ok (.iload_n 2, 1) := wt_op28 wb12m2_prog_4_method_14_code_c0 5 rfl rfl
theorem wp_rw_cheapestBehind_d6 : decode prog_4_method_14_code 6 = .ok (.iconst 1, 1) := wt_op4 wb12m2_prog_4_method_14_code_c0 6 rfl rfl
theorem wp_rw_cheapestBehind_d7 : decode prog_4_method_14_code 7 = .ok (.iadd, 1) := wt_op96 wb12m2_prog_4_method_14_code_c0 7 rfl rfl
theorem wp_rw_cheapestBehind_d8 : decode prog_4_method_14_code 8 = .ok (.invokevirtual 72, 3) := wt_op182 wb12m2_prog_4_method_14_code_c0 8 rfl rfl rfl
theorem wp_rw_cheapestBehind_d11 : decode prog_4_method_14_code 11 = .ok (.istore 4, 2) := wt_op54 wb12m2_prog_4_method_14_code_c0 11 rfl rfl
theorem wp_rw_cheapestBehind_d13 : decode prog_4_method_14_code 13 = .ok (.iconst (-1), 1) := wt_op2 wb12m2_prog_4_method_14_code_c0 13 rfl rfl
theorem wp_rw_cheapestBehind_d14 : decode prog_4_method_14_code 14 = .ok (.istore 5, 2) := wt_op54 wb12m2_prog_4_method_14_code_c0 14 rfl rfl
theorem wp_rw_cheapestBehind_d16 : decode prog_4_method_14_code 16 = .ok (.ldc 131, 2) := wt_op18 wb12m2_prog_4_method_14_code_c0 16 rfl rfl
theorem wp_rw_cheapestBehind_d18 : decode prog_4_method_14_code 18 = .ok (.istore 6, 2) := wt_op54 wb12m2_prog_4_method_14_code_c0 18 rfl rfl
theorem wp_rw_cheapestBehind_d20 : decode prog_4_method_14_code 20 = .ok (.iconst 0, 1) := wt_op3 wb12m2_prog_4_method_14_code_c0 20 rfl rfl
theorem wp_rw_cheapestBehind_d21 : decode prog_4_method_14_code 21 = .ok (.istore 7, 2) := wt_op54 wb12m2_prog_4_method_14_code_c0 21 rfl rfl
theorem wp_rw_cheapestBehind_d23 : decode prog_4_method_14_code 23 = .ok (.iload 7, 2) := wt_op21 wb12m2_prog_4_method_14_code_c0 23 rfl rfl
theorem wp_rw_cheapestBehind_d25 : decode prog_4_method_14_code 25 = .ok (.aload_n 0, 1) := wt_op42 wb12m2_prog_4_method_14_code_c0 25 rfl rfl
theorem wp_rw_cheapestBehind_d26 : decode prog_4_method_14_code 26 = .ok (.getfield 15, 3) := wt_op180 wb12m2_prog_4_method_14_code_c0 26 rfl rfl rfl
theorem wp_rw_cheapestBehind_d29 : decode prog_4_method_14_code 29 = .ok (.iload 4, 2) := wt_op21 wb12m2_prog_4_method_14_code_c1 0 rfl rfl
theorem wp_rw_cheapestBehind_d31 : decode prog_4_method_14_code 31 = .ok (.invokevirtual 75, 3) := wt_op182 wb12m2_prog_4_method_14_code_c1 2 rfl rfl rfl
theorem wp_rw_cheapestBehind_d34 : decode prog_4_method_14_code 34 = .ok (.if_icmp .ge 66, 3) := wt_op162 wb12m2_prog_4_method_14_code_c1 5 rfl rfl rfl
theorem wp_rw_cheapestBehind_d37 : decode prog_4_method_14_code 37 = .ok (.aload_n 0, 1) := wt_op42 wb12m2_prog_4_method_14_code_c1 8 rfl rfl
theorem wp_rw_cheapestBehind_d38 : decode prog_4_method_14_code 38 = .ok (.getfield 15, 3) := wt_op180 wb12m2_prog_4_method_14_code_c1 9 rfl rfl rfl
theorem wp_rw_cheapestBehind_d41 : decode prog_4_method_14_code 41 = .ok (.iload 4, 2) := wt_op21 wb12m2_prog_4_method_14_code_c1 12 rfl rfl
theorem wp_rw_cheapestBehind_d43 : decode prog_4_method_14_code 43 = .ok (.invokevirtual 78, 3) := wt_op182 wb12m2_prog_4_method_14_code_c1 14 rfl rfl rfl
theorem wp_rw_cheapestBehind_d46 : decode prog_4_method_14_code 46 = .ok (.iload 7, 2) := wt_op21 wb12m2_prog_4_method_14_code_c1 17 rfl rfl
theorem wp_rw_cheapestBehind_d48 : decode prog_4_method_14_code 48 = .ok (.iadd, 1) := wt_op96 wb12m2_prog_4_method_14_code_c1 19 rfl rfl
theorem wp_rw_cheapestBehind_d49 : decode prog_4_method_14_code 49 = .ok (.istore 8, 2) := wt_op54 wb12m2_prog_4_method_14_code_c1 20 rfl rfl
theorem wp_rw_cheapestBehind_d51 : decode prog_4_method_14_code 51 = .ok (.aload_n 0, 1) := wt_op42 wb12m2_prog_4_method_14_code_c1 22 rfl rfl
theorem wp_rw_cheapestBehind_d52 : decode prog_4_method_14_code 52 = .ok (.iload_n 1, 1) := wt_op27 wb12m2_prog_4_method_14_code_c1 23 rfl rfl
theorem wp_rw_cheapestBehind_d53 : decode prog_4_method_14_code 53 = .ok (.iload_n 2, 1) := wt_op28 wb12m2_prog_4_method_14_code_c1 24 rfl rfl
theorem wp_rw_cheapestBehind_d54 : decode prog_4_method_14_code 54 = .ok (.iconst 1, 1) := wt_op4 wb12m2_prog_4_method_14_code_c1 25 rfl rfl
theorem wp_rw_cheapestBehind_d55 : decode prog_4_method_14_code 55 = .ok (.iadd, 1) := wt_op96 wb12m2_prog_4_method_14_code_c1 26 rfl rfl
theorem wp_rw_cheapestBehind_d56 : decode prog_4_method_14_code 56 = .ok (.iload 8, 2) := wt_op21 wb12m2_prog_4_method_14_code_c1 27 rfl rfl
theorem wp_rw_cheapestBehind_d58 : decode prog_4_method_14_code 58 = .ok (.invokevirtual 95, 3) := wt_op182 wb12m2_prog_4_method_14_code_c2 0 rfl rfl rfl
theorem wp_rw_cheapestBehind_d61 : decode prog_4_method_14_code 61 = .ok (.istore 9, 2) := wt_op54 wb12m2_prog_4_method_14_code_c2 3 rfl rfl
theorem wp_rw_cheapestBehind_d63 : decode prog_4_method_14_code 63 = .ok (.iload 9, 2) := wt_op21 wb12m2_prog_4_method_14_code_c2 5 rfl rfl
theorem wp_rw_cheapestBehind_d65 : decode prog_4_method_14_code 65 = .ok (.iconst (-1), 1) := wt_op2 wb12m2_prog_4_method_14_code_c2 7 rfl rfl
theorem wp_rw_cheapestBehind_d66 : decode prog_4_method_14_code 66 = .ok (.if_icmp .eq 28, 3) := wt_op159 wb12m2_prog_4_method_14_code_c2 8 rfl rfl rfl
theorem wp_rw_cheapestBehind_d69 : decode prog_4_method_14_code 69 = .ok (.iload 9, 2) := wt_op21 wb12m2_prog_4_method_14_code_c2 11 rfl rfl
theorem wp_rw_cheapestBehind_d71 : decode prog_4_method_14_code 71 = .ok (.iload 6, 2) := wt_op21 wb12m2_prog_4_method_14_code_c2 13 rfl rfl
theorem wp_rw_cheapestBehind_d73 : decode prog_4_method_14_code 73 = .ok (.if_icmp .ge 21, 3) := wt_op162 wb12m2_prog_4_method_14_code_c2 15 rfl rfl rfl
theorem wp_rw_cheapestBehind_d76 : decode prog_4_method_14_code 76 = .ok (.aload_n 0, 1) := wt_op42 wb12m2_prog_4_method_14_code_c2 18 rfl rfl
theorem wp_rw_cheapestBehind_d77 : decode prog_4_method_14_code 77 = .ok (.iload_n 3, 1) := wt_op29 wb12m2_prog_4_method_14_code_c2 19 rfl rfl
theorem wp_rw_cheapestBehind_d78 : decode prog_4_method_14_code 78 = .ok (.iload 8, 2) := wt_op21 wb12m2_prog_4_method_14_code_c2 20 rfl rfl
theorem wp_rw_cheapestBehind_d80 : decode prog_4_method_14_code 80 = .ok (.invokevirtual 120, 3) := wt_op182 wb12m2_prog_4_method_14_code_c2 22 rfl rfl rfl
theorem wp_rw_cheapestBehind_d83 : decode prog_4_method_14_code 83 = .ok (.ifCond .eq 11, 3) := wt_op153 wb12m2_prog_4_method_14_code_c2 25 rfl rfl rfl
theorem wp_rw_cheapestBehind_d86 : decode prog_4_method_14_code 86 = .ok (.iload 8, 2) := wt_op21 wb12m2_prog_4_method_14_code_c3 0 rfl rfl
theorem wp_rw_cheapestBehind_d88 : decode prog_4_method_14_code 88 = .ok (.istore 5, 2) := wt_op54 wb12m2_prog_4_method_14_code_c3 2 rfl rfl
theorem wp_rw_cheapestBehind_d90 : decode prog_4_method_14_code 90 = .ok (.iload 9, 2) := wt_op21 wb12m2_prog_4_method_14_code_c3 4 rfl rfl
theorem wp_rw_cheapestBehind_d92 : decode prog_4_method_14_code 92 = .ok (.istore 6, 2) := wt_op54 wb12m2_prog_4_method_14_code_c3 6 rfl rfl
theorem wp_rw_cheapestBehind_d94 : decode prog_4_method_14_code 94 = .ok (.iinc 7 1, 3) := wt_op132 wb12m2_prog_4_method_14_code_c3 8 rfl rfl rfl
theorem wp_rw_cheapestBehind_d97 : decode prog_4_method_14_code 97 = .ok (.goto (-74), 3) := wt_op167 wb12m2_prog_4_method_14_code_c3 11 rfl rfl rfl
theorem wp_rw_cheapestBehind_d100 : decode prog_4_method_14_code 100 = .ok (.iload 5, 2) := wt_op21 wb12m2_prog_4_method_14_code_c3 14 rfl rfl
theorem wp_rw_cheapestBehind_d102 : decode prog_4_method_14_code 102 = .ok (.ireturn, 1) := wt_op172 wb12m2_prog_4_method_14_code_c3 16 rfl rfl
noncomputable def wp_rw_cheapestBehind_B94 (n : Nat) (x1 : Int32) (x2 : Int32) (x3 : Int32) (x4 : Int32) (x5 : Int32) (x6 : Int32) (x7 : Int32) (K23 : Int32 × Int32 × Int32 × wt_St → Option (Int32 × wt_St)) (σ : wt_St) : Option (Int32 × wt_St) :=
  K23 (x5, x6, (x7 + (1 : Int32)), σ)
set_option maxRecDepth 100000 in
set_option maxHeartbeats 4000000 in
theorem wp_rw_cheapestBehind_B94_ok  {x1 : Int32} {x2 : Int32} {x3 : Int32} {x4 : Int32} {x5 : Int32} {x6 : Int32} {x7 : Int32} {X : wt_X} {n : Nat} {res : Int32 × wt_St} (hE : wt_Ok X prog_4_method_14_code 10 "WornType$Rows" 4 0) (hR : wt_Rt X (some .int) (some res.1) res.2) (hD : ∀ i, i < 108 → wt_dom (wt_xw X) i)  {K23 : Int32 × Int32 × Int32 × wt_St → Option (Int32 × wt_St)} (hK23 : ∀ s : Int32 × Int32 × Int32 × wt_St, K23 s = some res → wt_V X 0 s.2.2.2 23 [some (.ref (wt_ad (wt_xw X) 81)), some (.int x1), some (.int x2), some (.int x3), some (.int x4), some (.int s.1), some (.int s.2.1), some (.int s.2.2.1), none, none] []) {σ : wt_St} (h : wp_rw_cheapestBehind_B94 n x1 x2 x3 x4 x5 x6 x7 K23 σ = some res) : wt_V X 0 σ 94 [some (.ref (wt_ad (wt_xw X) 81)), some (.int x1), some (.int x2), some (.int x3), some (.int x4), some (.int x5), some (.int x6), some (.int x7), none, none] [] := by
  unfold wp_rw_cheapestBehind_B94 at h
  refine wt_iinc hE (x7 + (1 : Int32)) [some (.ref (wt_ad (wt_xw X) 81)), some (.int x1), some (.int x2), some (.int x3), some (.int x4), some (.int x5), some (.int x6), some (.int (x7 + (1 : Int32))), none, none] wp_rw_cheapestBehind_d94 (by decide) rfl rfl rfl ?_
  refine wt_goto hE 23 wp_rw_cheapestBehind_d97 rfl ?_
  exact hK23 (x5, x6, (x7 + (1 : Int32)), σ) h
noncomputable def wp_rw_cheapestBehind_B23 (n : Nat) (x1 : Int32) (x2 : Int32) (x3 : Int32) (x4 : Int32) (K23 : Int32 × Int32 × Int32 × wt_St → Option (Int32 × wt_St)) (s : Int32 × Int32 × Int32 × wt_St) : Option (Int32 × wt_St) :=
  (wp_tg_membersLike n 20 x4 s.2.2.2).bind fun q2 =>
  if q2.1 ≤ s.2.2.1 then
    some (s.1, q2.2)
  else
    (wp_tg_firstLike n 20 x4 q2.2).bind fun q4 =>
    (wp_rw_sumAt n x1 (x2 + (1 : Int32)) (q4.1 + s.2.2.1) q4.2).bind fun q5 =>
    if q5.1 = (-1 : Int32) then
      wp_rw_cheapestBehind_B94 n x1 x2 x3 x4 s.1 s.2.1 s.2.2.1 K23 q5.2
    else
      if s.2.1 ≤ q5.1 then
        wp_rw_cheapestBehind_B94 n x1 x2 x3 x4 s.1 s.2.1 s.2.2.1 K23 q5.2
      else
        (wp_rw_mayFollow n x3 (q4.1 + s.2.2.1) q5.2).bind fun q8 =>
        if q8.1 = 0 then
          wp_rw_cheapestBehind_B94 n x1 x2 x3 x4 s.1 s.2.1 s.2.2.1 K23 q8.2
        else
          wp_rw_cheapestBehind_B94 n x1 x2 x3 x4 (q4.1 + s.2.2.1) q5.1 s.2.2.1 K23 q8.2
set_option maxRecDepth 100000 in
set_option maxHeartbeats 4000000 in
theorem wp_rw_cheapestBehind_B23_ok  {x1 : Int32} {x2 : Int32} {x3 : Int32} {x4 : Int32} {X : wt_X} {n : Nat} {res : Int32 × wt_St} (hE : wt_Ok X prog_4_method_14_code 10 "WornType$Rows" 4 0) (hR : wt_Rt X (some .int) (some res.1) res.2) (hD : ∀ i, i < 108 → wt_dom (wt_xw X) i)  {K23 : Int32 × Int32 × Int32 × wt_St → Option (Int32 × wt_St)} (hK23 : ∀ s : Int32 × Int32 × Int32 × wt_St, K23 s = some res → wt_V X 0 s.2.2.2 23 [some (.ref (wt_ad (wt_xw X) 81)), some (.int x1), some (.int x2), some (.int x3), some (.int x4), some (.int s.1), some (.int s.2.1), some (.int s.2.2.1), none, none] []) {s : Int32 × Int32 × Int32 × wt_St} (h : wp_rw_cheapestBehind_B23 n x1 x2 x3 x4 K23 s = some res) : wt_V X 0 s.2.2.2 23 [some (.ref (wt_ad (wt_xw X) 81)), some (.int x1), some (.int x2), some (.int x3), some (.int x4), some (.int s.1), some (.int s.2.1), some (.int s.2.2.1), none, none] [] := by
  unfold wp_rw_cheapestBehind_B23 at h
  refine wt_iload hE wp_rw_cheapestBehind_d23 rfl ?_
  refine wt_aload_n hE wp_rw_cheapestBehind_d25 rfl ?_
  refine wt_getr hE (r := 20) wt_lf_rw_15 (hD 81 (Nat.le_of_ble_eq_true rfl)) wt_L81 rfl wp_rw_cheapestBehind_d26 ?_
  refine wt_iload hE wp_rw_cheapestBehind_d29 rfl ?_
  obtain ⟨q2, hq2, h⟩ := wt_bi h
  refine wt_callVi hE [.int x4] wt_lm_rw_75 wt_ya_tg_membersLike (wp_tg_membersLike_ok wt_isTongue_20 (fun j hj => hD (20 + j) (by omega)) hq2) (by omega) (hD 20 (Nat.le_of_ble_eq_true rfl)) wt_L20 rfl rfl rfl (Nat.le_of_ble_eq_true rfl) (Nat.zero_le _) wp_rw_cheapestBehind_d31 (fun hbq2 => ?_)
  refine wt_icmp_ge hE 100 wp_rw_cheapestBehind_d34 rfl (fun c3 => ?_) (fun c3 => ?_)
  · have h := wt_ip c3 h
    refine wt_iload hE wp_rw_cheapestBehind_d100 rfl ?_
    cases h
    exact wt_iret hE hR wp_rw_cheapestBehind_d102
  · have h := wt_in c3 h
    refine wt_aload_n hE wp_rw_cheapestBehind_d37 rfl ?_
    refine wt_getr hE (r := 20) wt_lf_rw_15 (hD 81 (Nat.le_of_ble_eq_true rfl)) wt_L81 rfl wp_rw_cheapestBehind_d38 ?_
    refine wt_iload hE wp_rw_cheapestBehind_d41 rfl ?_
    obtain ⟨q4, hq4, h⟩ := wt_bi h
    refine wt_callVi hE [.int x4] wt_lm_rw_78 wt_ya_tg_firstLike (wp_tg_firstLike_ok wt_isTongue_20 (fun j hj => hD (20 + j) (by omega)) hq4) (by omega) (hD 20 (Nat.le_of_ble_eq_true rfl)) wt_L20 rfl rfl rfl (Nat.le_of_ble_eq_true rfl) (Nat.zero_le _) wp_rw_cheapestBehind_d43 (fun hbq4 => ?_)
    refine wt_iload hE wp_rw_cheapestBehind_d46 rfl ?_
    refine wt_iadd hE wp_rw_cheapestBehind_d48 ?_
    refine wt_istore hE [some (.ref (wt_ad (wt_xw X) 81)), some (.int x1), some (.int x2), some (.int x3), some (.int x4), some (.int s.1), some (.int s.2.1), some (.int s.2.2.1), some (.int (q4.1 + s.2.2.1)), none] wp_rw_cheapestBehind_d49 (Nat.le_of_ble_eq_true rfl) rfl ?_
    refine wt_aload_n hE wp_rw_cheapestBehind_d51 rfl ?_
    refine wt_iload_n hE wp_rw_cheapestBehind_d52 rfl ?_
    refine wt_iload_n hE wp_rw_cheapestBehind_d53 rfl ?_
    refine wt_iconst hE (1 : Int32) wp_rw_cheapestBehind_d54 wt_ci_1 ?_
    refine wt_iadd hE wp_rw_cheapestBehind_d55 ?_
    refine wt_iload hE wp_rw_cheapestBehind_d56 rfl ?_
    obtain ⟨q5, hq5, h⟩ := wt_bi h
    refine wt_callVi hE [.int x1, .int (x2 + (1 : Int32)), .int (q4.1 + s.2.2.1)] wt_lm_rw_95 wt_ya_rw_sumAt (wp_rw_sumAt_ok hD hq5) (by omega) (hD 81 (Nat.le_of_ble_eq_true rfl)) wt_L81 rfl rfl rfl (Nat.le_of_ble_eq_true rfl) (Nat.zero_le _) wp_rw_cheapestBehind_d58 (fun hbq5 => ?_)
    refine wt_istore hE [some (.ref (wt_ad (wt_xw X) 81)), some (.int x1), some (.int x2), some (.int x3), some (.int x4), some (.int s.1), some (.int s.2.1), some (.int s.2.2.1), some (.int (q4.1 + s.2.2.1)), some (.int q5.1)] wp_rw_cheapestBehind_d61 (Nat.le_of_ble_eq_true rfl) rfl ?_
    refine wt_iload hE wp_rw_cheapestBehind_d63 rfl ?_
    refine wt_iconst hE (-1 : Int32) wp_rw_cheapestBehind_d65 wt_ci_m1 ?_
    refine wt_icmp_eq hE 94 wp_rw_cheapestBehind_d66 rfl (fun c6 => ?_) (fun c6 => ?_)
    · have h := wt_ip c6 h
      refine wt_wk [true, true, true, true, true, true, true, true, false, false] rfl ?_
      exact wp_rw_cheapestBehind_B94_ok hE hR hD hK23 h
    · have h := wt_in c6 h
      refine wt_iload hE wp_rw_cheapestBehind_d69 rfl ?_
      refine wt_iload hE wp_rw_cheapestBehind_d71 rfl ?_
      refine wt_icmp_ge hE 94 wp_rw_cheapestBehind_d73 rfl (fun c7 => ?_) (fun c7 => ?_)
      · have h := wt_ip c7 h
        refine wt_wk [true, true, true, true, true, true, true, true, false, false] rfl ?_
        exact wp_rw_cheapestBehind_B94_ok hE hR hD hK23 h
      · have h := wt_in c7 h
        refine wt_aload_n hE wp_rw_cheapestBehind_d76 rfl ?_
        refine wt_iload_n hE wp_rw_cheapestBehind_d77 rfl ?_
        refine wt_iload hE wp_rw_cheapestBehind_d78 rfl ?_
        obtain ⟨q8, hq8, h⟩ := wt_bi h
        refine wt_callVi hE [.int x3, .int (q4.1 + s.2.2.1)] wt_lm_rw_120 wt_ya_rw_mayFollow (wp_rw_mayFollow_ok hD hq8) (by omega) (hD 81 (Nat.le_of_ble_eq_true rfl)) wt_L81 rfl rfl rfl (Nat.le_of_ble_eq_true rfl) (Nat.zero_le _) wp_rw_cheapestBehind_d80 (fun hbq8 => ?_)
        refine wt_if_eq hE 94 wp_rw_cheapestBehind_d83 rfl (fun c9 => ?_) (fun c9 => ?_)
        · have h := wt_ip c9 h
          refine wt_wk [true, true, true, true, true, true, true, true, false, false] rfl ?_
          exact wp_rw_cheapestBehind_B94_ok hE hR hD hK23 h
        · have h := wt_in c9 h
          refine wt_iload hE wp_rw_cheapestBehind_d86 rfl ?_
          refine wt_istore hE [some (.ref (wt_ad (wt_xw X) 81)), some (.int x1), some (.int x2), some (.int x3), some (.int x4), some (.int (q4.1 + s.2.2.1)), some (.int s.2.1), some (.int s.2.2.1), some (.int (q4.1 + s.2.2.1)), some (.int q5.1)] wp_rw_cheapestBehind_d88 (Nat.le_of_ble_eq_true rfl) rfl ?_
          refine wt_iload hE wp_rw_cheapestBehind_d90 rfl ?_
          refine wt_istore hE [some (.ref (wt_ad (wt_xw X) 81)), some (.int x1), some (.int x2), some (.int x3), some (.int x4), some (.int (q4.1 + s.2.2.1)), some (.int q5.1), some (.int s.2.2.1), some (.int (q4.1 + s.2.2.1)), some (.int q5.1)] wp_rw_cheapestBehind_d92 (Nat.le_of_ble_eq_true rfl) rfl ?_
          refine wt_wk [true, true, true, true, true, true, true, true, false, false] rfl ?_
          exact wp_rw_cheapestBehind_B94_ok hE hR hD hK23 h
noncomputable def wp_rw_cheapestBehind (n : Nat) (x1 : Int32) (x2 : Int32) (x3 : Int32) (σ : wt_St) : Option (Int32 × wt_St) :=
  (wp_tx_wordAt n x1 (x2 + (1 : Int32)) σ).bind fun q1 =>
  wt_it (wp_rw_cheapestBehind_B23 n x1 x2 x3 q1.1) n ((-1 : Int32), (1000000 : Int32), (0 : Int32), q1.2)
set_option maxRecDepth 100000 in
set_option maxHeartbeats 4000000 in
theorem wp_rw_cheapestBehind_ok {l : Launch} {w : wt_E} {n : Nat} {x1 : Int32} {x2 : Int32} {x3 : Int32} (hD : ∀ i, i < 108 → wt_dom w i) {σ : wt_St} {q : Int32 × wt_St} (h : wp_rw_cheapestBehind n x1 x2 x3 σ = some q) : wt_Ctr l w wt_y_rw_cheapestBehind prog_4_method_14_code 10 (some .int) 4 [.ref (wt_ad w 81), .int x1, .int x2, .int x3] σ (some q.1) q.2 := by
  refine wt_ctr wt_pl_rw_cheapestBehind rfl (Nat.le_of_ble_eq_true rfl) [some (.ref (wt_ad w 81)), some (.int x1), some (.int x2), some (.int x3), none, none, none, none, none, none] rfl ?_
  intro X hXl hXw hE hR
  subst hXl
  subst hXw
  have hE : wt_Ok X prog_4_method_14_code 10 "WornType$Rows" 4 0 := hE
  unfold wp_rw_cheapestBehind at h
  refine wt_aload_n hE wp_rw_cheapestBehind_d0 rfl ?_
  refine wt_getr hE (r := 34) wt_lf_rw_19 (hD 81 (Nat.le_of_ble_eq_true rfl)) wt_L81 rfl wp_rw_cheapestBehind_d1 ?_
  refine wt_iload_n hE wp_rw_cheapestBehind_d4 rfl ?_
  refine wt_iload_n hE wp_rw_cheapestBehind_d5 rfl ?_
  refine wt_iconst hE (1 : Int32) wp_rw_cheapestBehind_d6 wt_ci_1 ?_
  refine wt_iadd hE wp_rw_cheapestBehind_d7 ?_
  obtain ⟨q1, hq1, h⟩ := wt_bi h
  refine wt_callVi hE [.int x1, .int (x2 + (1 : Int32))] wt_lm_rw_72 wt_ya_tx_wordAt (wp_tx_wordAt_ok hD hq1) (by omega) (hD 34 (Nat.le_of_ble_eq_true rfl)) wt_L34 rfl rfl rfl (Nat.le_of_ble_eq_true rfl) (Nat.zero_le _) wp_rw_cheapestBehind_d8 (fun hbq1 => ?_)
  refine wt_istore hE [some (.ref (wt_ad (wt_xw X) 81)), some (.int x1), some (.int x2), some (.int x3), some (.int q1.1), none, none, none, none, none] wp_rw_cheapestBehind_d11 (Nat.le_of_ble_eq_true rfl) rfl ?_
  refine wt_iconst hE (-1 : Int32) wp_rw_cheapestBehind_d13 wt_ci_m1 ?_
  refine wt_istore hE [some (.ref (wt_ad (wt_xw X) 81)), some (.int x1), some (.int x2), some (.int x3), some (.int q1.1), some (.int (-1 : Int32)), none, none, none, none] wp_rw_cheapestBehind_d14 (Nat.le_of_ble_eq_true rfl) rfl ?_
  refine wt_ldc hE (1000000 : Int32) wt_lc_rw_131 wp_rw_cheapestBehind_d16 ?_
  refine wt_istore hE [some (.ref (wt_ad (wt_xw X) 81)), some (.int x1), some (.int x2), some (.int x3), some (.int q1.1), some (.int (-1 : Int32)), some (.int (1000000 : Int32)), none, none, none] wp_rw_cheapestBehind_d18 (Nat.le_of_ble_eq_true rfl) rfl ?_
  refine wt_iconst hE (0 : Int32) wp_rw_cheapestBehind_d20 wt_ci_0 ?_
  refine wt_istore hE [some (.ref (wt_ad (wt_xw X) 81)), some (.int x1), some (.int x2), some (.int x3), some (.int q1.1), some (.int (-1 : Int32)), some (.int (1000000 : Int32)), some (.int (0 : Int32)), none, none] wp_rw_cheapestBehind_d21 (Nat.le_of_ble_eq_true rfl) rfl ?_
  exact wt_it_ind (fun z => wt_V X 0 z.2.2.2 23 [some (.ref (wt_ad (wt_xw X) 81)), some (.int x1), some (.int x2), some (.int x3), some (.int q1.1), some (.int z.1), some (.int z.2.1), some (.int z.2.2.1), none, none] []) (fun K hK z h => wp_rw_cheapestBehind_B23_ok hE hR hD hK h) n ((-1 : Int32), (1000000 : Int32), (0 : Int32), q1.2) h
def wb12m2_prog_4_method_13_code_r1 : List (List Nat) := [21, 4, 2, 160, 0, 7, 2, 167, 0, 19, 42, 29, 182, 0, 117, 42, 27, 28, 4, 96, 21, 4, 182, 0, 95, 96, 172] :: []
def wb12m2_prog_4_method_13_code_r0 : List (List Nat) := [28, 4, 96, 42, 180, 0, 19, 27, 182, 0, 66, 161, 0, 9, 42, 29, 182, 0, 117, 172, 42, 27, 28, 29, 182, 0, 92, 54, 4] :: wb12m2_prog_4_method_13_code_r1
set_option maxRecDepth 100000 in
theorem wb12m2_prog_4_method_13_code_c0 : wt_cs prog_4_method_13_code 0 wb12m2_prog_4_method_13_code_r0 := wt_cs_of (by decide +kernel)
theorem wb12m2_prog_4_method_13_code_c1 : wt_cs prog_4_method_13_code 29 wb12m2_prog_4_method_13_code_r1 := wt_cs_tl (m := 29) wb12m2_prog_4_method_13_code_c0 rfl rfl
theorem wp_rw_leastFrom_d0 : decode prog_4_method_13_code 0 = .ok (.iload_n 2, 1) := wt_op28 wb12m2_prog_4_method_13_code_c0 0 rfl rfl
theorem wp_rw_leastFrom_d1 : decode prog_4_method_13_code 1 = .ok (.iconst 1, 1) := wt_op4 wb12m2_prog_4_method_13_code_c0 1 rfl rfl
theorem wp_rw_leastFrom_d2 : decode prog_4_method_13_code 2 = .ok (.iadd, 1) := wt_op96 wb12m2_prog_4_method_13_code_c0 2 rfl rfl
theorem wp_rw_leastFrom_d3 : decode prog_4_method_13_code 3 = .ok (.aload_n 0, 1) := wt_op42 wb12m2_prog_4_method_13_code_c0 3 rfl rfl
theorem wp_rw_leastFrom_d4 : decode prog_4_method_13_code 4 = .ok (.getfield 19, 3) := wt_op180 wb12m2_prog_4_method_13_code_c0 4 rfl rfl rfl
theorem wp_rw_leastFrom_d7 : decode prog_4_method_13_code 7 = .ok (.iload_n 1, 1) := wt_op27 wb12m2_prog_4_method_13_code_c0 7 rfl rfl
theorem wp_rw_leastFrom_d8 : decode prog_4_method_13_code 8 = .ok (.invokevirtual 66, 3) := wt_op182 wb12m2_prog_4_method_13_code_c0 8 rfl rfl rfl
theorem wp_rw_leastFrom_d11 : decode prog_4_method_13_code 11 = .ok (.if_icmp .lt 9, 3) := wt_op161 wb12m2_prog_4_method_13_code_c0 11 rfl rfl rfl
theorem wp_rw_leastFrom_d14 : decode prog_4_method_13_code 14 = .ok (.aload_n 0, 1) := wt_op42 wb12m2_prog_4_method_13_code_c0 14 rfl rfl
theorem wp_rw_leastFrom_d15 : decode prog_4_method_13_code 15 = .ok (.iload_n 3, 1) := wt_op29 wb12m2_prog_4_method_13_code_c0 15 rfl rfl
theorem wp_rw_leastFrom_d16 : decode prog_4_method_13_code 16 = .ok (.invokevirtual 117, 3) := wt_op182 wb12m2_prog_4_method_13_code_c0 16 rfl rfl rfl
theorem wp_rw_leastFrom_d19 : decode prog_4_method_13_code 19 = .ok (.ireturn, 1) := wt_op172 wb12m2_prog_4_method_13_code_c0 19 rfl rfl
theorem wp_rw_leastFrom_d20 : decode prog_4_method_13_code 20 = .ok (.aload_n 0, 1) := wt_op42 wb12m2_prog_4_method_13_code_c0 20 rfl rfl
theorem wp_rw_leastFrom_d21 : decode prog_4_method_13_code 21 = .ok (.iload_n 1, 1) := wt_op27 wb12m2_prog_4_method_13_code_c0 21 rfl rfl
theorem wp_rw_leastFrom_d22 : decode prog_4_method_13_code 22 = .ok (.iload_n 2, 1) := wt_op28 wb12m2_prog_4_method_13_code_c0 22 rfl rfl
theorem wp_rw_leastFrom_d23 : decode prog_4_method_13_code 23 = .ok (.iload_n 3, 1) := wt_op29 wb12m2_prog_4_method_13_code_c0 23 rfl rfl
theorem wp_rw_leastFrom_d24 : decode prog_4_method_13_code 24 = .ok (.invokevirtual 92, 3) := wt_op182 wb12m2_prog_4_method_13_code_c0 24 rfl rfl rfl
theorem wp_rw_leastFrom_d27 : decode prog_4_method_13_code 27 = .ok (.istore 4, 2) := wt_op54 wb12m2_prog_4_method_13_code_c0 27 rfl rfl
theorem wp_rw_leastFrom_d29 : decode prog_4_method_13_code 29 = .ok (.iload 4, 2) := wt_op21 wb12m2_prog_4_method_13_code_c1 0 rfl rfl
theorem wp_rw_leastFrom_d31 : decode prog_4_method_13_code 31 = .ok (.iconst (-1), 1) := wt_op2 wb12m2_prog_4_method_13_code_c1 2 rfl rfl
theorem wp_rw_leastFrom_d32 : decode prog_4_method_13_code 32 = .ok (.if_icmp .ne 7, 3) := wt_op160 wb12m2_prog_4_method_13_code_c1 3 rfl rfl rfl
theorem wp_rw_leastFrom_d35 : decode prog_4_method_13_code 35 = .ok (.iconst (-1), 1) := wt_op2 wb12m2_prog_4_method_13_code_c1 6 rfl rfl
theorem wp_rw_leastFrom_d36 : decode prog_4_method_13_code 36 = .ok (.goto 19, 3) := wt_op167 wb12m2_prog_4_method_13_code_c1 7 rfl rfl rfl
theorem wp_rw_leastFrom_d39 : decode prog_4_method_13_code 39 = .ok (.aload_n 0, 1) := wt_op42 wb12m2_prog_4_method_13_code_c1 10 rfl rfl
theorem wp_rw_leastFrom_d40 : decode prog_4_method_13_code 40 = .ok (.iload_n 3, 1) := wt_op29 wb12m2_prog_4_method_13_code_c1 11 rfl rfl
theorem wp_rw_leastFrom_d41 : decode prog_4_method_13_code 41 = .ok (.invokevirtual 117, 3) := wt_op182 wb12m2_prog_4_method_13_code_c1 12 rfl rfl rfl
theorem wp_rw_leastFrom_d44 : decode prog_4_method_13_code 44 = .ok (.aload_n 0, 1) := wt_op42 wb12m2_prog_4_method_13_code_c1 15 rfl rfl
theorem wp_rw_leastFrom_d45 : decode prog_4_method_13_code 45 = .ok (.iload_n 1, 1) := wt_op27 wb12m2_prog_4_method_13_code_c1 16 rfl rfl
theorem wp_rw_leastFrom_d46 : decode prog_4_method_13_code 46 = .ok (.iload_n 2, 1) := wt_op28 wb12m2_prog_4_method_13_code_c1 17 rfl rfl
theorem wp_rw_leastFrom_d47 : decode prog_4_method_13_code 47 = .ok (.iconst 1, 1) := wt_op4 wb12m2_prog_4_method_13_code_c1 18 rfl rfl
theorem wp_rw_leastFrom_d48 : decode prog_4_method_13_code 48 = .ok (.iadd, 1) := wt_op96 wb12m2_prog_4_method_13_code_c1 19 rfl rfl
theorem wp_rw_leastFrom_d49 : decode prog_4_method_13_code 49 = .ok (.iload 4, 2) := wt_op21 wb12m2_prog_4_method_13_code_c1 20 rfl rfl
theorem wp_rw_leastFrom_d51 : decode prog_4_method_13_code 51 = .ok (.invokevirtual 95, 3) := wt_op182 wb12m2_prog_4_method_13_code_c1 22 rfl rfl rfl
theorem wp_rw_leastFrom_d54 : decode prog_4_method_13_code 54 = .ok (.iadd, 1) := wt_op96 wb12m2_prog_4_method_13_code_c1 25 rfl rfl
theorem wp_rw_leastFrom_d55 : decode prog_4_method_13_code 55 = .ok (.ireturn, 1) := wt_op172 wb12m2_prog_4_method_13_code_c1 26 rfl rfl
noncomputable def wp_rw_leastFrom (n : Nat) (x1 : Int32) (x2 : Int32) (x3 : Int32) (σ : wt_St) : Option (Int32 × wt_St) :=
  (wp_tx_lengthOf n x1 σ).bind fun q1 =>
  if (x2 + (1 : Int32)) < q1.1 then
    (wp_rw_cheapestBehind n x1 x2 x3 q1.2).bind fun q3 =>
    if q3.1 = (-1 : Int32) then
      some ((-1 : Int32), q3.2)
    else
      (wp_rw_priceOf n x3 q3.2).bind fun q5 =>
      (wp_rw_sumAt n x1 (x2 + (1 : Int32)) q3.1 q5.2).bind fun q6 =>
      some ((q5.1 + q6.1), q6.2)
  else
    (wp_rw_priceOf n x3 q1.2).bind fun q7 =>
    some (q7.1, q7.2)
set_option maxRecDepth 100000 in
set_option maxHeartbeats 4000000 in
theorem wp_rw_leastFrom_ok {l : Launch} {w : wt_E} {n : Nat} {x1 : Int32} {x2 : Int32} {x3 : Int32} (hD : ∀ i, i < 108 → wt_dom w i) {σ : wt_St} {q : Int32 × wt_St} (h : wp_rw_leastFrom n x1 x2 x3 σ = some q) : wt_Ctr l w wt_y_rw_leastFrom prog_4_method_13_code 5 (some .int) 5 [.ref (wt_ad w 81), .int x1, .int x2, .int x3] σ (some q.1) q.2 := by
  refine wt_ctr wt_pl_rw_leastFrom rfl (Nat.le_of_ble_eq_true rfl) [some (.ref (wt_ad w 81)), some (.int x1), some (.int x2), some (.int x3), none] rfl ?_
  intro X hXl hXw hE hR
  subst hXl
  subst hXw
  have hE : wt_Ok X prog_4_method_13_code 5 "WornType$Rows" 5 0 := hE
  unfold wp_rw_leastFrom at h
  refine wt_iload_n hE wp_rw_leastFrom_d0 rfl ?_
  refine wt_iconst hE (1 : Int32) wp_rw_leastFrom_d1 wt_ci_1 ?_
  refine wt_iadd hE wp_rw_leastFrom_d2 ?_
  refine wt_aload_n hE wp_rw_leastFrom_d3 rfl ?_
  refine wt_getr hE (r := 34) wt_lf_rw_19 (hD 81 (Nat.le_of_ble_eq_true rfl)) wt_L81 rfl wp_rw_leastFrom_d4 ?_
  refine wt_iload_n hE wp_rw_leastFrom_d7 rfl ?_
  obtain ⟨q1, hq1, h⟩ := wt_bi h
  refine wt_callVi hE [.int x1] wt_lm_rw_66 wt_ya_tx_lengthOf (wp_tx_lengthOf_ok hD hq1) (by omega) (hD 34 (Nat.le_of_ble_eq_true rfl)) wt_L34 rfl rfl rfl (Nat.le_of_ble_eq_true rfl) (Nat.zero_le _) wp_rw_leastFrom_d8 (fun hbq1 => ?_)
  refine wt_icmp_lt hE 20 wp_rw_leastFrom_d11 rfl (fun c2 => ?_) (fun c2 => ?_)
  · have h := wt_ip c2 h
    refine wt_aload_n hE wp_rw_leastFrom_d20 rfl ?_
    refine wt_iload_n hE wp_rw_leastFrom_d21 rfl ?_
    refine wt_iload_n hE wp_rw_leastFrom_d22 rfl ?_
    refine wt_iload_n hE wp_rw_leastFrom_d23 rfl ?_
    obtain ⟨q3, hq3, h⟩ := wt_bi h
    refine wt_callVi hE [.int x1, .int x2, .int x3] wt_lm_rw_92 wt_ya_rw_cheapestBehind (wp_rw_cheapestBehind_ok hD hq3) (by omega) (hD 81 (Nat.le_of_ble_eq_true rfl)) wt_L81 rfl rfl rfl (Nat.le_of_ble_eq_true rfl) (Nat.zero_le _) wp_rw_leastFrom_d24 (fun hbq3 => ?_)
    refine wt_istore hE [some (.ref (wt_ad (wt_xw X) 81)), some (.int x1), some (.int x2), some (.int x3), some (.int q3.1)] wp_rw_leastFrom_d27 (Nat.le_of_ble_eq_true rfl) rfl ?_
    refine wt_iload hE wp_rw_leastFrom_d29 rfl ?_
    refine wt_iconst hE (-1 : Int32) wp_rw_leastFrom_d31 wt_ci_m1 ?_
    refine wt_icmp_ne hE 39 wp_rw_leastFrom_d32 rfl (fun c4 => ?_) (fun c4 => ?_)
    · have h := wt_in c4 h
      refine wt_aload_n hE wp_rw_leastFrom_d39 rfl ?_
      refine wt_iload_n hE wp_rw_leastFrom_d40 rfl ?_
      obtain ⟨q5, hq5, h⟩ := wt_bi h
      refine wt_callVi hE [.int x3] wt_lm_rw_117 wt_ya_rw_priceOf (wp_rw_priceOf_ok hD hq5) (by omega) (hD 81 (Nat.le_of_ble_eq_true rfl)) wt_L81 rfl rfl rfl (Nat.le_of_ble_eq_true rfl) (Nat.zero_le _) wp_rw_leastFrom_d41 (fun hbq5 => ?_)
      refine wt_aload_n hE wp_rw_leastFrom_d44 rfl ?_
      refine wt_iload_n hE wp_rw_leastFrom_d45 rfl ?_
      refine wt_iload_n hE wp_rw_leastFrom_d46 rfl ?_
      refine wt_iconst hE (1 : Int32) wp_rw_leastFrom_d47 wt_ci_1 ?_
      refine wt_iadd hE wp_rw_leastFrom_d48 ?_
      refine wt_iload hE wp_rw_leastFrom_d49 rfl ?_
      obtain ⟨q6, hq6, h⟩ := wt_bi h
      refine wt_callVi hE [.int x1, .int (x2 + (1 : Int32)), .int q3.1] wt_lm_rw_95 wt_ya_rw_sumAt (wp_rw_sumAt_ok hD hq6) (by omega) (hD 81 (Nat.le_of_ble_eq_true rfl)) wt_L81 rfl rfl rfl (Nat.le_of_ble_eq_true rfl) (Nat.zero_le _) wp_rw_leastFrom_d51 (fun hbq6 => ?_)
      refine wt_iadd hE wp_rw_leastFrom_d54 ?_
      cases h
      exact wt_iret hE hR wp_rw_leastFrom_d55
    · have h := wt_ip c4 h
      refine wt_iconst hE (-1 : Int32) wp_rw_leastFrom_d35 wt_ci_m1 ?_
      refine wt_goto hE 55 wp_rw_leastFrom_d36 rfl ?_
      cases h
      exact wt_iret hE hR wp_rw_leastFrom_d55
  · have h := wt_in c2 h
    refine wt_aload_n hE wp_rw_leastFrom_d14 rfl ?_
    refine wt_iload_n hE wp_rw_leastFrom_d15 rfl ?_
    obtain ⟨q7, hq7, h⟩ := wt_bi h
    refine wt_callVi hE [.int x3] wt_lm_rw_117 wt_ya_rw_priceOf (wp_rw_priceOf_ok hD hq7) (by omega) (hD 81 (Nat.le_of_ble_eq_true rfl)) wt_L81 rfl rfl rfl (Nat.le_of_ble_eq_true rfl) (Nat.zero_le _) wp_rw_leastFrom_d16 (fun hbq7 => ?_)
    cases h
    exact wt_iret hE hR wp_rw_leastFrom_d19
def wb12m2_prog_4_method_6_code_r5 : List (List Nat) := [167, 0, 7, 42, 180, 0, 44, 181, 0, 44, 132, 4, 1, 167, 255, 197, 177] :: []
def wb12m2_prog_4_method_6_code_r4 : List (List Nat) := [62, 29, 2, 160, 0, 4, 177, 42, 180, 0, 41, 21, 4, 29, 184, 0, 85, 42, 21, 4, 154, 0, 13, 42, 27, 3, 29, 182, 0, 95] :: wb12m2_prog_4_method_6_code_r5
def wb12m2_prog_4_method_6_code_r3 : List (List Nat) := [167, 255, 184, 2, 62, 42, 2, 181, 0, 44, 3, 54, 4, 21, 4, 28, 162, 0, 59, 42, 27, 21, 4, 4, 100, 29, 182, 0, 92] :: wb12m2_prog_4_method_6_code_r4
def wb12m2_prog_4_method_6_code_r2 : List (List Nat) := [27, 29, 42, 180, 0, 15, 21, 4, 182, 0, 78, 21, 5, 96, 182, 0, 89, 184, 0, 85, 132, 5, 1, 167, 255, 208, 132, 3, 255] :: wb12m2_prog_4_method_6_code_r3
def wb12m2_prog_4_method_6_code_r1 : List (List Nat) := [3, 54, 5, 21, 5, 42, 180, 0, 15, 21, 4, 182, 0, 75, 162, 0, 40, 42, 180, 0, 31, 29, 8, 104, 21, 5, 96, 42] :: wb12m2_prog_4_method_6_code_r2
def wb12m2_prog_4_method_6_code_r0 : List (List Nat) := [42, 180, 0, 19, 27, 182, 0, 66, 61, 28, 4, 100, 62, 29, 155, 0, 74, 42, 180, 0, 19, 27, 29, 182, 0, 72, 54, 4] :: wb12m2_prog_4_method_6_code_r1
set_option maxRecDepth 100000 in
theorem wb12m2_prog_4_method_6_code_c0 : wt_cs prog_4_method_6_code 0 wb12m2_prog_4_method_6_code_r0 := wt_cs_of (by decide +kernel)
theorem wb12m2_prog_4_method_6_code_c1 : wt_cs prog_4_method_6_code 28 wb12m2_prog_4_method_6_code_r1 := wt_cs_tl (m := 28) wb12m2_prog_4_method_6_code_c0 rfl rfl
theorem wb12m2_prog_4_method_6_code_c2 : wt_cs prog_4_method_6_code 56 wb12m2_prog_4_method_6_code_r2 := wt_cs_tl (m := 28) wb12m2_prog_4_method_6_code_c1 rfl rfl
theorem wb12m2_prog_4_method_6_code_c3 : wt_cs prog_4_method_6_code 85 wb12m2_prog_4_method_6_code_r3 := wt_cs_tl (m := 29) wb12m2_prog_4_method_6_code_c2 rfl rfl
theorem wb12m2_prog_4_method_6_code_c4 : wt_cs prog_4_method_6_code 114 wb12m2_prog_4_method_6_code_r4 := wt_cs_tl (m := 29) wb12m2_prog_4_method_6_code_c3 rfl rfl
theorem wb12m2_prog_4_method_6_code_c5 : wt_cs prog_4_method_6_code 144 wb12m2_prog_4_method_6_code_r5 := wt_cs_tl (m := 30) wb12m2_prog_4_method_6_code_c4 rfl rfl
theorem wp_rw_findLeast_d0 : decode prog_4_method_6_code 0 = .ok (.aload_n 0, 1) := wt_op42 wb12m2_prog_4_method_6_code_c0 0 rfl rfl
theorem wp_rw_findLeast_d1 : decode prog_4_method_6_code 1 = .ok (.getfield 19, 3) := wt_op180 wb12m2_prog_4_method_6_code_c0 1 rfl rfl rfl
theorem wp_rw_findLeast_d4 : decode prog_4_method_6_code 4 = .ok (.iload_n 1, 1) := wt_op27 wb12m2_prog_4_method_6_code_c0 4 rfl rfl
theorem wp_rw_findLeast_d5 : decode prog_4_method_6_code 5 = .ok (.invokevirtual 66, 3) := wt_op182 wb12m2_prog_4_method_6_code_c0 5 rfl rfl rfl
theorem wp_rw_findLeast_d8 : decode prog_4_method_6_code 8 = .ok (.istore_n 2, 1) := wt_op61 wb12m2_prog_4_method_6_code_c0 8 rfl rfl
theorem wp_rw_findLeast_d9 : decode prog_4_method_6_code 9 = .ok (.iload_n 2, 1) := wt_op28 wb12m2_prog_4_method_6_code_c0 9 rfl rfl
theorem wp_rw_findLeast_d10 : decode prog_4_method_6_code 10 = .ok (.iconst 1, 1) := wt_op4 wb12m2_prog_4_method_6_code_c0 10 rfl rfl
theorem wp_rw_findLeast_d11 : decode prog_4_method_6_code 11 = .ok (.isub, 1) := wt_op100 wb12m2_prog_4_method_6_code_c0 11 rfl rfl
theorem wp_rw_findLeast_d12 : decode prog_4_method_6_code 12 = .ok (.istore_n 3, 1) := wt_op62 wb12m2_prog_4_method_6_code_c0 12 rfl rfl
theorem wp_rw_findLeast_d13 : decode prog_4_method_6_code 13 = .ok (.iload_n 3, 1) := wt_op29 wb12m2_prog_4_method_6_code_c0 13 rfl rfl
theorem wp_rw_findLeast_d14 : decode prog_4_method_6_code 14 = .ok (.ifCond .lt 74, 3) := wt_op155 wb12m2_prog_4_method_6_code_c0 14 rfl rfl rfl
theorem wp_rw_findLeast_d17 : decode prog_4_method_6_code 17 = .ok (.aload_n 0, 1) := wt_op42 wb12m2_prog_4_method_6_code_c0 17 rfl rfl
theorem wp_rw_findLeast_d18 : decode prog_4_method_6_code 18 = .ok (.getfield 19, 3) := wt_op180 wb12m2_prog_4_method_6_code_c0 18 rfl rfl rfl
theorem wp_rw_findLeast_d21 : decode prog_4_method_6_code 21 = .ok (.iload_n 1, 1) := wt_op27 wb12m2_prog_4_method_6_code_c0 21 rfl rfl
theorem wp_rw_findLeast_d22 : decode prog_4_method_6_code 22 = .ok (.iload_n 3, 1) := wt_op29 wb12m2_prog_4_method_6_code_c0 22 rfl rfl
theorem wp_rw_findLeast_d23 : decode prog_4_method_6_code 23 = .ok (.invokevirtual 72, 3) := wt_op182 wb12m2_prog_4_method_6_code_c0 23 rfl rfl rfl
theorem wp_rw_findLeast_d26 : decode prog_4_method_6_code 26 = .ok (.istore 4, 2) := wt_op54 wb12m2_prog_4_method_6_code_c0 26 rfl rfl
theorem wp_rw_findLeast_d28 : decode prog_4_method_6_code 28 = .ok (.iconst 0, 1) := wt_op3 wb12m2_prog_4_method_6_code_c1 0 rfl rfl
theorem wp_rw_findLeast_d29 : decode prog_4_method_6_code 29 = .ok (.istore 5, 2) := wt_op54 wb12m2_prog_4_method_6_code_c1 1 rfl rfl
theorem wp_rw_findLeast_d31 : decode prog_4_method_6_code 31 = .ok (.iload 5, 2) := wt_op21 wb12m2_prog_4_method_6_code_c1 3 rfl rfl
theorem wp_rw_findLeast_d33 : decode prog_4_method_6_code 33 = .ok (.aload_n 0, 1) := wt_op42 wb12m2_prog_4_method_6_code_c1 5 rfl rfl
theorem wp_rw_findLeast_d34 : decode prog_4_method_6_code 34 = .ok (.getfield 15, 3) := wt_op180 wb12m2_prog_4_method_6_code_c1 6 rfl rfl rfl
theorem wp_rw_findLeast_d37 : decode prog_4_method_6_code 37 = .ok (.iload 4, 2) := wt_op21 wb12m2_prog_4_method_6_code_c1 9 rfl rfl
theorem wp_rw_findLeast_d39 : decode prog_4_method_6_code 39 = .ok (.invokevirtual 75, 3) := wt_op182 wb12m2_prog_4_method_6_code_c1 11 rfl rfl rfl
theorem wp_rw_findLeast_d42 : decode prog_4_method_6_code 42 = .ok (.if_icmp .ge 40, 3) := wt_op162 wb12m2_prog_4_method_6_code_c1 14 rfl rfl rfl
theorem wp_rw_findLeast_d45 : decode prog_4_method_6_code 45 = .ok (.aload_n 0, 1) := wt_op42 wb12m2_prog_4_method_6_code_c1 17 rfl rfl
theorem wp_rw_findLeast_d46 : decode prog_4_method_6_code 46 = .ok (.getfield 31, 3) := wt_op180 wb12m2_prog_4_method_6_code_c1 18 rfl rfl rfl
theorem wp_rw_findLeast_d49 : decode prog_4_method_6_code 49 = .ok (.iload_n 3, 1) := wt_op29 wb12m2_prog_4_method_6_code_c1 21 rfl rfl
theorem wp_rw_findLeast_d50 : decode prog_4_method_6_code 50 = .ok (.iconst 5, 1) := wt_op8 wb12m2_prog_4_method_6_code_c1 22 rfl rfl
theorem wp_rw_findLeast_d51 : decode prog_4_method_6_code 51 = .ok (.imul, 1) := wt_op104 wb12m2_prog_4_method_6_code_c1 23 rfl rfl
theorem wp_rw_findLeast_d52 : decode prog_4_method_6_code 52 = .ok (.iload 5, 2) := wt_op21 wb12m2_prog_4_method_6_code_c1 24 rfl rfl
theorem wp_rw_findLeast_d54 : decode prog_4_method_6_code 54 = .ok (.iadd, 1) := wt_op96 wb12m2_prog_4_method_6_code_c1 26 rfl rfl
theorem wp_rw_findLeast_d55 : decode prog_4_method_6_code 55 = .ok (.aload_n 0, 1) := wt_op42 wb12m2_prog_4_method_6_code_c1 27 rfl rfl
theorem wp_rw_findLeast_d56 : decode prog_4_method_6_code 56 = .ok (.iload_n 1, 1) := wt_op27 wb12m2_prog_4_method_6_code_c2 0 rfl rfl
theorem wp_rw_findLeast_d57 : decode prog_4_method_6_code 57 = .ok (.iload_n 3, 1) := wt_op29 wb12m2_prog_4_method_6_code_c2 1 rfl rfl
theorem wp_rw_findLeast_d58 : decode prog_4_method_6_code 58 = .ok (.aload_n 0, 1) := wt_op42 wb12m2_prog_4_method_6_code_c2 2 rfl rfl
theorem wp_rw_findLeast_d59 : decode prog_4_method_6_code 59 = .ok (.getfield 15, 3) := wt_op180 wb12m2_prog_4_method_6_code_c2 3 rfl rfl rfl
theorem wp_rw_findLeast_d62 : decode prog_4_method_6_code 62 = .ok (.iload 4, 2) := wt_op21 wb12m2_prog_4_method_6_code_c2 6 rfl rfl
theorem wp_rw_findLeast_d64 : decode prog_4_method_6_code 64 = .ok (.invokevirtual 78, 3) := wt_op182 wb12m2_prog_4_method_6_code_c2 8 rfl rfl rfl
theorem wp_rw_findLeast_d67 : decode prog_4_method_6_code 67 = .ok (.iload 5, 2) := wt_op21 wb12m2_prog_4_method_6_code_c2 11 rfl rfl
theorem wp_rw_findLeast_d69 : decode prog_4_method_6_code 69 = .ok (.iadd, 1) := wt_op96 wb12m2_prog_4_method_6_code_c2 13 rfl rfl
theorem wp_rw_findLeast_d70 : decode prog_4_method_6_code 70 = .ok (.invokevirtual 89, 3) := wt_op182 wb12m2_prog_4_method_6_code_c2 14 rfl rfl rfl
theorem wp_rw_findLeast_d73 : decode prog_4_method_6_code 73 = .ok (.invokestatic 85, 3) := wt_op184 wb12m2_prog_4_method_6_code_c2 17 rfl rfl rfl
theorem wp_rw_findLeast_d76 : decode prog_4_method_6_code 76 = .ok (.iinc 5 1, 3) := wt_op132 wb12m2_prog_4_method_6_code_c2 20 rfl rfl rfl
theorem wp_rw_findLeast_d79 : decode prog_4_method_6_code 79 = .ok (.goto (-48), 3) := wt_op167 wb12m2_prog_4_method_6_code_c2 23 rfl rfl rfl
theorem wp_rw_findLeast_d82 : decode prog_4_method_6_code 82 = .ok (.iinc 3 (-1), 3) := wt_op132 wb12m2_prog_4_method_6_code_c2 26 rfl rfl rfl
theorem wp_rw_findLeast_d85 : decode prog_4_method_6_code 85 = .ok (.goto (-72), 3) := wt_op167 wb12m2_prog_4_method_6_code_c3 0 rfl rfl rfl
theorem wp_rw_findLeast_d88 : decode prog_4_method_6_code 88 = .ok (.iconst (-1), 1) := wt_op2 wb12m2_prog_4_method_6_code_c3 3 rfl rfl
theorem wp_rw_findLeast_d89 : decode prog_4_method_6_code 89 = .ok (.istore_n 3, 1) := wt_op62 wb12m2_prog_4_method_6_code_c3 4 rfl rfl
theorem wp_rw_findLeast_d90 : decode prog_4_method_6_code 90 = .ok (.aload_n 0, 1) := wt_op42 wb12m2_prog_4_method_6_code_c3 5 rfl rfl
theorem wp_rw_findLeast_d91 : decode prog_4_method_6_code 91 = .ok (.iconst (-1), 1) := wt_op2 wb12m2_prog_4_method_6_code_c3 6 rfl rfl
theorem wp_rw_findLeast_d92 : decode prog_4_method_6_code 92 = .ok (.putfield 44, 3) := wt_op181 wb12m2_prog_4_method_6_code_c3 7 rfl rfl rfl
theorem wp_rw_findLeast_d95 : decode prog_4_method_6_code 95 = .ok (.iconst 0, 1) := wt_op3 wb12m2_prog_4_method_6_code_c3 10 rfl rfl
theorem wp_rw_findLeast_d96 : decode prog_4_method_6_code 96 = .ok (.istore 4, 2) := wt_op54 wb12m2_prog_4_method_6_code_c3 11 rfl rfl
theorem wp_rw_findLeast_d98 : decode prog_4_method_6_code 98 = .ok (.iload 4, 2) := wt_op21 wb12m2_prog_4_method_6_code_c3 13 rfl rfl
theorem wp_rw_findLeast_d100 : decode prog_4_method_6_code 100 = .ok (.iload_n 2, 1) := wt_op28 wb12m2_prog_4_method_6_code_c3 15 rfl rfl
theorem wp_rw_findLeast_d101 : decode prog_4_method_6_code 101 = .ok (.if_icmp .ge 59, 3) := wt_op162 wb12m2_prog_4_method_6_code_c3 16 rfl rfl rfl
theorem wp_rw_findLeast_d104 : decode prog_4_method_6_code 104 = .ok (.aload_n 0, 1) := wt_op42 wb12m2_prog_4_method_6_code_c3 19 rfl rfl
theorem wp_rw_findLeast_d105 : decode prog_4_method_6_code 105 = .ok (.iload_n 1, 1) := wt_op27 wb12m2_prog_4_method_6_code_c3 20 rfl rfl
theorem wp_rw_findLeast_d106 : decode prog_4_method_6_code 106 = .ok (.iload 4, 2) := wt_op21 wb12m2_prog_4_method_6_code_c3 21 rfl rfl
theorem wp_rw_findLeast_d108 : decode prog_4_method_6_code 108 = .ok (.iconst 1, 1) := wt_op4 wb12m2_prog_4_method_6_code_c3 23 rfl rfl
theorem wp_rw_findLeast_d109 : decode prog_4_method_6_code 109 = .ok (.isub, 1) := wt_op100 wb12m2_prog_4_method_6_code_c3 24 rfl rfl
theorem wp_rw_findLeast_d110 : decode prog_4_method_6_code 110 = .ok (.iload_n 3, 1) := wt_op29 wb12m2_prog_4_method_6_code_c3 25 rfl rfl
theorem wp_rw_findLeast_d111 : decode prog_4_method_6_code 111 = .ok (.invokevirtual 92, 3) := wt_op182 wb12m2_prog_4_method_6_code_c3 26 rfl rfl rfl
theorem wp_rw_findLeast_d114 : decode prog_4_method_6_code 114 = .ok (.istore_n 3, 1) := wt_op62 wb12m2_prog_4_method_6_code_c4 0 rfl rfl
theorem wp_rw_findLeast_d115 : decode prog_4_method_6_code 115 = .ok (.iload_n 3, 1) := wt_op29 wb12m2_prog_4_method_6_code_c4 1 rfl rfl
theorem wp_rw_findLeast_d116 : decode prog_4_method_6_code 116 = .ok (.iconst (-1), 1) := wt_op2 wb12m2_prog_4_method_6_code_c4 2 rfl rfl
theorem wp_rw_findLeast_d117 : decode prog_4_method_6_code 117 = .ok (.if_icmp .ne 4, 3) := wt_op160 wb12m2_prog_4_method_6_code_c4 3 rfl rfl rfl
theorem wp_rw_findLeast_d120 : decode prog_4_method_6_code 120 = .ok (.return_, 1) := wt_op177 wb12m2_prog_4_method_6_code_c4 6 rfl rfl
theorem wp_rw_findLeast_d121 : decode prog_4_method_6_code 121 = .ok (.aload_n 0, 1) := wt_op42 wb12m2_prog_4_method_6_code_c4 7 rfl rfl
theorem wp_rw_findLeast_d122 : decode prog_4_method_6_code 122 = .ok (.getfield 41, 3) := wt_op180 wb12m2_prog_4_method_6_code_c4 8 rfl rfl rfl
theorem wp_rw_findLeast_d125 : decode prog_4_method_6_code 125 = .ok (.iload 4, 2) := wt_op21 wb12m2_prog_4_method_6_code_c4 11 rfl rfl
theorem wp_rw_findLeast_d127 : decode prog_4_method_6_code 127 = .ok (.iload_n 3, 1) := wt_op29 wb12m2_prog_4_method_6_code_c4 13 rfl rfl
theorem wp_rw_findLeast_d128 : decode prog_4_method_6_code 128 = .ok (.invokestatic 85, 3) := wt_op184 wb12m2_prog_4_method_6_code_c4 14 rfl rfl rfl
theorem wp_rw_findLeast_d131 : decode prog_4_method_6_code 131 = .ok (.aload_n 0, 1) := wt_op42 wb12m2_prog_4_method_6_code_c4 17 rfl rfl
theorem wp_rw_findLeast_d132 : decode prog_4_method_6_code 132 = .ok (.iload 4, 2) := wt_op21 wb12m2_prog_4_method_6_code_c4 18 rfl rfl
theorem wp_rw_findLeast_d134 : decode prog_4_method_6_code 134 = .ok (.ifCond .ne 13, 3) := wt_op154 wb12m2_prog_4_method_6_code_c4 20 rfl rfl rfl
theorem wp_rw_findLeast_d137 : decode prog_4_method_6_code 137 = .ok (.aload_n 0, 1) := wt_op42 wb12m2_prog_4_method_6_code_c4 23 rfl rfl
theorem wp_rw_findLeast_d138 : decode prog_4_method_6_code 138 = .ok (.iload_n 1, 1) := wt_op27 wb12m2_prog_4_method_6_code_c4 24 rfl rfl
theorem wp_rw_findLeast_d139 : decode prog_4_method_6_code 139 = .ok (.iconst 0, 1) := wt_op3 wb12m2_prog_4_method_6_code_c4 25 rfl rfl
theorem wp_rw_findLeast_d140 : decode prog_4_method_6_code 140 = .ok (.iload_n 3, 1) := wt_op29 wb12m2_prog_4_method_6_code_c4 26 rfl rfl
theorem wp_rw_findLeast_d141 : decode prog_4_method_6_code 141 = .ok (.invokevirtual 95, 3) := wt_op182 wb12m2_prog_4_method_6_code_c4 27 rfl rfl rfl
theorem wp_rw_findLeast_d144 : decode prog_4_method_6_code 144 = .ok (.goto 7, 3) := wt_op167 wb12m2_prog_4_method_6_code_c5 0 rfl rfl rfl
theorem wp_rw_findLeast_d147 : decode prog_4_method_6_code 147 = .ok (.aload_n 0, 1) := wt_op42 wb12m2_prog_4_method_6_code_c5 3 rfl rfl
theorem wp_rw_findLeast_d148 : decode prog_4_method_6_code 148 = .ok (.getfield 44, 3) := wt_op180 wb12m2_prog_4_method_6_code_c5 4 rfl rfl rfl
theorem wp_rw_findLeast_d151 : decode prog_4_method_6_code 151 = .ok (.putfield 44, 3) := wt_op181 wb12m2_prog_4_method_6_code_c5 7 rfl rfl rfl
theorem wp_rw_findLeast_d154 : decode prog_4_method_6_code 154 = .ok (.iinc 4 1, 3) := wt_op132 wb12m2_prog_4_method_6_code_c5 10 rfl rfl rfl
theorem wp_rw_findLeast_d157 : decode prog_4_method_6_code 157 = .ok (.goto (-59), 3) := wt_op167 wb12m2_prog_4_method_6_code_c5 13 rfl rfl rfl
theorem wp_rw_findLeast_d160 : decode prog_4_method_6_code 160 = .ok (.return_, 1) := wt_op177 wb12m2_prog_4_method_6_code_c5 16 rfl rfl
noncomputable def wp_rw_findLeast_B151 (n : Nat) (x1 : Int32) (x2 : Int32) (x3 : Int32) (x4 : Int32) (K98 : Int32 × Int32 × wt_St → Option (wt_St)) (y1 : Int32) (σ : wt_St) : Option (wt_St) :=
  K98 (x3, (x4 + (1 : Int32)), (wt_sf σ 81 9 y1))
set_option maxRecDepth 100000 in
set_option maxHeartbeats 4000000 in
theorem wp_rw_findLeast_B151_ok  {x1 : Int32} {x2 : Int32} {x3 : Int32} {x4 : Int32} {X : wt_X} {n : Nat} {res : wt_St} (hE : wt_Ok X prog_4_method_6_code 6 "WornType$Rows" 6 0) (hR : wt_Rt X none none res) (hD : ∀ i, i < 108 → wt_dom (wt_xw X) i)  {K98 : Int32 × Int32 × wt_St → Option (wt_St)} (hK98 : ∀ s : Int32 × Int32 × wt_St, K98 s = some res → wt_V X 0 s.2.2 98 [some (.ref (wt_ad (wt_xw X) 81)), some (.int x1), some (.int x2), some (.int s.1), some (.int s.2.1), none] []) {σ : wt_St} {y1 : Int32} (h : wp_rw_findLeast_B151 n x1 x2 x3 x4 K98 y1 σ = some res) : wt_V X 0 σ 151 [some (.ref (wt_ad (wt_xw X) 81)), some (.int x1), some (.int x2), some (.int x3), some (.int x4), none] [.int y1, .ref (wt_ad (wt_xw X) 81)] := by
  unfold wp_rw_findLeast_B151 at h
  refine wt_puti hE wt_lf_rw_44 (hD 81 (Nat.le_of_ble_eq_true rfl)) wt_L81 rfl (fun q hq => by cases hq; rfl) wp_rw_findLeast_d151 ?_
  refine wt_iinc hE (x4 + (1 : Int32)) [some (.ref (wt_ad (wt_xw X) 81)), some (.int x1), some (.int x2), some (.int x3), some (.int (x4 + (1 : Int32))), none] wp_rw_findLeast_d154 (by decide) rfl rfl rfl ?_
  refine wt_goto hE 98 wp_rw_findLeast_d157 rfl ?_
  exact hK98 (x3, (x4 + (1 : Int32)), (wt_sf σ 81 9 y1)) h
noncomputable def wp_rw_findLeast_B98 (n : Nat) (x1 : Int32) (x2 : Int32) (K98 : Int32 × Int32 × wt_St → Option (wt_St)) (s : Int32 × Int32 × wt_St) : Option (wt_St) :=
  if x2 ≤ s.2.1 then
    some s.2.2
  else
    (wp_rw_cheapestBehind n x1 (s.2.1 - (1 : Int32)) s.1 s.2.2).bind fun q4 =>
    if q4.1 = (-1 : Int32) then
      some q4.2
    else
      (wp_ap_put n 85 s.2.1 q4.1 q4.2).bind fun q6 =>
      if s.2.1 = 0 then
        (wp_rw_sumAt n x1 (0 : Int32) q4.1 q6).bind fun q8 =>
        wp_rw_findLeast_B151 n x1 x2 q4.1 s.2.1 K98 q8.1 q8.2
      else
        wp_rw_findLeast_B151 n x1 x2 q4.1 s.2.1 K98 (wt_gf q6 81 9) q6
set_option maxRecDepth 100000 in
set_option maxHeartbeats 4000000 in
theorem wp_rw_findLeast_B98_ok  {x1 : Int32} {x2 : Int32} {X : wt_X} {n : Nat} {res : wt_St} (hE : wt_Ok X prog_4_method_6_code 6 "WornType$Rows" 6 0) (hR : wt_Rt X none none res) (hD : ∀ i, i < 108 → wt_dom (wt_xw X) i)  {K98 : Int32 × Int32 × wt_St → Option (wt_St)} (hK98 : ∀ s : Int32 × Int32 × wt_St, K98 s = some res → wt_V X 0 s.2.2 98 [some (.ref (wt_ad (wt_xw X) 81)), some (.int x1), some (.int x2), some (.int s.1), some (.int s.2.1), none] []) {s : Int32 × Int32 × wt_St} (h : wp_rw_findLeast_B98 n x1 x2 K98 s = some res) : wt_V X 0 s.2.2 98 [some (.ref (wt_ad (wt_xw X) 81)), some (.int x1), some (.int x2), some (.int s.1), some (.int s.2.1), none] [] := by
  unfold wp_rw_findLeast_B98 at h
  refine wt_iload hE wp_rw_findLeast_d98 rfl ?_
  refine wt_iload_n hE wp_rw_findLeast_d100 rfl ?_
  refine wt_icmp_ge hE 160 wp_rw_findLeast_d101 rfl (fun c3 => ?_) (fun c3 => ?_)
  · have h := wt_ip c3 h
    cases h
    exact wt_vret hE hR wp_rw_findLeast_d160
  · have h := wt_in c3 h
    refine wt_aload_n hE wp_rw_findLeast_d104 rfl ?_
    refine wt_iload_n hE wp_rw_findLeast_d105 rfl ?_
    refine wt_iload hE wp_rw_findLeast_d106 rfl ?_
    refine wt_iconst hE (1 : Int32) wp_rw_findLeast_d108 wt_ci_1 ?_
    refine wt_isub hE wp_rw_findLeast_d109 ?_
    refine wt_iload_n hE wp_rw_findLeast_d110 rfl ?_
    obtain ⟨q4, hq4, h⟩ := wt_bi h
    refine wt_callVi hE [.int x1, .int (s.2.1 - (1 : Int32)), .int s.1] wt_lm_rw_92 wt_ya_rw_cheapestBehind (wp_rw_cheapestBehind_ok hD hq4) (by omega) (hD 81 (Nat.le_of_ble_eq_true rfl)) wt_L81 rfl rfl rfl (Nat.le_of_ble_eq_true rfl) (Nat.zero_le _) wp_rw_findLeast_d111 (fun hbq4 => ?_)
    refine wt_istore_n hE [some (.ref (wt_ad (wt_xw X) 81)), some (.int x1), some (.int x2), some (.int q4.1), some (.int s.2.1), none] wp_rw_findLeast_d114 (by decide) rfl ?_
    refine wt_iload_n hE wp_rw_findLeast_d115 rfl ?_
    refine wt_iconst hE (-1 : Int32) wp_rw_findLeast_d116 wt_ci_m1 ?_
    refine wt_icmp_ne hE 121 wp_rw_findLeast_d117 rfl (fun c5 => ?_) (fun c5 => ?_)
    · have h := wt_in c5 h
      refine wt_aload_n hE wp_rw_findLeast_d121 rfl ?_
      refine wt_getr hE (r := 85) wt_lf_rw_41 (hD 81 (Nat.le_of_ble_eq_true rfl)) wt_L81 rfl wp_rw_findLeast_d122 ?_
      refine wt_iload hE wp_rw_findLeast_d125 rfl ?_
      refine wt_iload_n hE wp_rw_findLeast_d127 rfl ?_
      obtain ⟨q6, hq6, h⟩ := wt_bi h
      refine wt_callSv hE [.ref (wt_ad (wt_xw X) 85), .int s.2.1, .int q4.1] wt_lm_rw_85 wt_ya_ap_put (wp_ap_put_ok (wt_lnE wt_L85) (hD 85 (Nat.le_of_ble_eq_true rfl)) hq6) (by omega) rfl rfl (Nat.le_of_ble_eq_true rfl) (Nat.zero_le _) wp_rw_findLeast_d128 ?_
      refine wt_aload_n hE wp_rw_findLeast_d131 rfl ?_
      refine wt_iload hE wp_rw_findLeast_d132 rfl ?_
      refine wt_if_ne hE 147 wp_rw_findLeast_d134 rfl (fun c7 => ?_) (fun c7 => ?_)
      · have h := wt_in c7 h
        refine wt_aload_n hE wp_rw_findLeast_d147 rfl ?_
        refine wt_geti hE wt_lf_rw_44 (hD 81 (Nat.le_of_ble_eq_true rfl)) wt_L81 rfl wp_rw_findLeast_d148 ?_
        exact wp_rw_findLeast_B151_ok hE hR hD hK98 h
      · have h := wt_ip c7 h
        refine wt_aload_n hE wp_rw_findLeast_d137 rfl ?_
        refine wt_iload_n hE wp_rw_findLeast_d138 rfl ?_
        refine wt_iconst hE (0 : Int32) wp_rw_findLeast_d139 wt_ci_0 ?_
        refine wt_iload_n hE wp_rw_findLeast_d140 rfl ?_
        obtain ⟨q8, hq8, h⟩ := wt_bi h
        refine wt_callVi hE [.int x1, .int (0 : Int32), .int q4.1] wt_lm_rw_95 wt_ya_rw_sumAt (wp_rw_sumAt_ok hD hq8) (by omega) (hD 81 (Nat.le_of_ble_eq_true rfl)) wt_L81 rfl rfl rfl (Nat.le_of_ble_eq_true rfl) (Nat.zero_le _) wp_rw_findLeast_d141 (fun hbq8 => ?_)
        refine wt_goto hE 151 wp_rw_findLeast_d144 rfl ?_
        exact wp_rw_findLeast_B151_ok hE hR hD hK98 h
    · have h := wt_ip c5 h
      cases h
      exact wt_vret hE hR wp_rw_findLeast_d120
noncomputable def wp_rw_findLeast_B31 (n : Nat) (x1 : Int32) (x2 : Int32) (x3 : Int32) (x4 : Int32) (K13 : Int32 × wt_St → Option (wt_St)) (K31 : Int32 × wt_St → Option (wt_St)) (s : Int32 × wt_St) : Option (wt_St) :=
  (wp_tg_membersLike n 20 x4 s.2).bind fun q10 =>
  if q10.1 ≤ s.1 then
    K13 ((x3 + (-1 : Int32)), q10.2)
  else
    (wp_tg_firstLike n 20 x4 q10.2).bind fun q12 =>
    (wp_rw_leastFrom n x1 x3 (q12.1 + s.1) q12.2).bind fun q13 =>
    (wp_ap_put n 82 ((x3 * (5 : Int32)) + s.1) q13.1 q13.2).bind fun q14 =>
    K31 ((s.1 + (1 : Int32)), q14)
set_option maxRecDepth 100000 in
set_option maxHeartbeats 4000000 in
theorem wp_rw_findLeast_B31_ok  {x1 : Int32} {x2 : Int32} {x3 : Int32} {x4 : Int32} {X : wt_X} {n : Nat} {res : wt_St} (hE : wt_Ok X prog_4_method_6_code 6 "WornType$Rows" 6 0) (hR : wt_Rt X none none res) (hD : ∀ i, i < 108 → wt_dom (wt_xw X) i)  {K13 : Int32 × wt_St → Option (wt_St)} (hK13 : ∀ s : Int32 × wt_St, K13 s = some res → wt_V X 0 s.2 13 [some (.ref (wt_ad (wt_xw X) 81)), some (.int x1), some (.int x2), some (.int s.1), none, none] []) {K31 : Int32 × wt_St → Option (wt_St)} (hK31 : ∀ s : Int32 × wt_St, K31 s = some res → wt_V X 0 s.2 31 [some (.ref (wt_ad (wt_xw X) 81)), some (.int x1), some (.int x2), some (.int x3), some (.int x4), some (.int s.1)] []) {s : Int32 × wt_St} (h : wp_rw_findLeast_B31 n x1 x2 x3 x4 K13 K31 s = some res) : wt_V X 0 s.2 31 [some (.ref (wt_ad (wt_xw X) 81)), some (.int x1), some (.int x2), some (.int x3), some (.int x4), some (.int s.1)] [] := by
  unfold wp_rw_findLeast_B31 at h
  refine wt_iload hE wp_rw_findLeast_d31 rfl ?_
  refine wt_aload_n hE wp_rw_findLeast_d33 rfl ?_
  refine wt_getr hE (r := 20) wt_lf_rw_15 (hD 81 (Nat.le_of_ble_eq_true rfl)) wt_L81 rfl wp_rw_findLeast_d34 ?_
  refine wt_iload hE wp_rw_findLeast_d37 rfl ?_
  obtain ⟨q10, hq10, h⟩ := wt_bi h
  refine wt_callVi hE [.int x4] wt_lm_rw_75 wt_ya_tg_membersLike (wp_tg_membersLike_ok wt_isTongue_20 (fun j hj => hD (20 + j) (by omega)) hq10) (by omega) (hD 20 (Nat.le_of_ble_eq_true rfl)) wt_L20 rfl rfl rfl (Nat.le_of_ble_eq_true rfl) (Nat.zero_le _) wp_rw_findLeast_d39 (fun hbq10 => ?_)
  refine wt_icmp_ge hE 82 wp_rw_findLeast_d42 rfl (fun c11 => ?_) (fun c11 => ?_)
  · have h := wt_ip c11 h
    refine wt_iinc hE (x3 + (-1 : Int32)) [some (.ref (wt_ad (wt_xw X) 81)), some (.int x1), some (.int x2), some (.int (x3 + (-1 : Int32))), some (.int x4), some (.int s.1)] wp_rw_findLeast_d82 (by decide) rfl rfl rfl ?_
    refine wt_goto hE 13 wp_rw_findLeast_d85 rfl ?_
    refine wt_wk [true, true, true, true, false, false] rfl ?_
    exact hK13 ((x3 + (-1 : Int32)), q10.2) h
  · have h := wt_in c11 h
    refine wt_aload_n hE wp_rw_findLeast_d45 rfl ?_
    refine wt_getr hE (r := 82) wt_lf_rw_31 (hD 81 (Nat.le_of_ble_eq_true rfl)) wt_L81 rfl wp_rw_findLeast_d46 ?_
    refine wt_iload_n hE wp_rw_findLeast_d49 rfl ?_
    refine wt_iconst hE (5 : Int32) wp_rw_findLeast_d50 wt_ci_5 ?_
    refine wt_imul hE wp_rw_findLeast_d51 ?_
    refine wt_iload hE wp_rw_findLeast_d52 rfl ?_
    refine wt_iadd hE wp_rw_findLeast_d54 ?_
    refine wt_aload_n hE wp_rw_findLeast_d55 rfl ?_
    refine wt_iload_n hE wp_rw_findLeast_d56 rfl ?_
    refine wt_iload_n hE wp_rw_findLeast_d57 rfl ?_
    refine wt_aload_n hE wp_rw_findLeast_d58 rfl ?_
    refine wt_getr hE (r := 20) wt_lf_rw_15 (hD 81 (Nat.le_of_ble_eq_true rfl)) wt_L81 rfl wp_rw_findLeast_d59 ?_
    refine wt_iload hE wp_rw_findLeast_d62 rfl ?_
    obtain ⟨q12, hq12, h⟩ := wt_bi h
    refine wt_callVi hE [.int x4] wt_lm_rw_78 wt_ya_tg_firstLike (wp_tg_firstLike_ok wt_isTongue_20 (fun j hj => hD (20 + j) (by omega)) hq12) (by omega) (hD 20 (Nat.le_of_ble_eq_true rfl)) wt_L20 rfl rfl rfl (Nat.le_of_ble_eq_true rfl) (Nat.zero_le _) wp_rw_findLeast_d64 (fun hbq12 => ?_)
    refine wt_iload hE wp_rw_findLeast_d67 rfl ?_
    refine wt_iadd hE wp_rw_findLeast_d69 ?_
    obtain ⟨q13, hq13, h⟩ := wt_bi h
    refine wt_callVi hE [.int x1, .int x3, .int (q12.1 + s.1)] wt_lm_rw_89 wt_ya_rw_leastFrom (wp_rw_leastFrom_ok hD hq13) (by omega) (hD 81 (Nat.le_of_ble_eq_true rfl)) wt_L81 rfl rfl rfl (Nat.le_of_ble_eq_true rfl) (Nat.zero_le _) wp_rw_findLeast_d70 (fun hbq13 => ?_)
    obtain ⟨q14, hq14, h⟩ := wt_bi h
    refine wt_callSv hE [.ref (wt_ad (wt_xw X) 82), .int ((x3 * (5 : Int32)) + s.1), .int q13.1] wt_lm_rw_85 wt_ya_ap_put (wp_ap_put_ok (wt_lnE wt_L82) (hD 82 (Nat.le_of_ble_eq_true rfl)) hq14) (by omega) rfl rfl (Nat.le_of_ble_eq_true rfl) (Nat.zero_le _) wp_rw_findLeast_d73 ?_
    refine wt_iinc hE (s.1 + (1 : Int32)) [some (.ref (wt_ad (wt_xw X) 81)), some (.int x1), some (.int x2), some (.int x3), some (.int x4), some (.int (s.1 + (1 : Int32)))] wp_rw_findLeast_d76 (by decide) rfl rfl rfl ?_
    refine wt_goto hE 31 wp_rw_findLeast_d79 rfl ?_
    exact hK31 ((s.1 + (1 : Int32)), q14) h
noncomputable def wp_rw_findLeast_B13 (n : Nat) (x1 : Int32) (x2 : Int32) (K13 : Int32 × wt_St → Option (wt_St)) (s : Int32 × wt_St) : Option (wt_St) :=
  if s.1 < 0 then
    wt_it (wp_rw_findLeast_B98 n x1 x2) n ((-1 : Int32), (0 : Int32), (wt_sf s.2 81 9 (-1 : Int32)))
  else
    (wp_tx_wordAt n x1 s.1 s.2).bind fun q9 =>
    wt_it (wp_rw_findLeast_B31 n x1 x2 s.1 q9.1 K13) n ((0 : Int32), q9.2)
set_option maxRecDepth 100000 in
set_option maxHeartbeats 4000000 in
theorem wp_rw_findLeast_B13_ok  {x1 : Int32} {x2 : Int32} {X : wt_X} {n : Nat} {res : wt_St} (hE : wt_Ok X prog_4_method_6_code 6 "WornType$Rows" 6 0) (hR : wt_Rt X none none res) (hD : ∀ i, i < 108 → wt_dom (wt_xw X) i)  {K13 : Int32 × wt_St → Option (wt_St)} (hK13 : ∀ s : Int32 × wt_St, K13 s = some res → wt_V X 0 s.2 13 [some (.ref (wt_ad (wt_xw X) 81)), some (.int x1), some (.int x2), some (.int s.1), none, none] []) {s : Int32 × wt_St} (h : wp_rw_findLeast_B13 n x1 x2 K13 s = some res) : wt_V X 0 s.2 13 [some (.ref (wt_ad (wt_xw X) 81)), some (.int x1), some (.int x2), some (.int s.1), none, none] [] := by
  unfold wp_rw_findLeast_B13 at h
  refine wt_iload_n hE wp_rw_findLeast_d13 rfl ?_
  refine wt_if_lt hE 88 wp_rw_findLeast_d14 rfl (fun c2 => ?_) (fun c2 => ?_)
  · have h := wt_ip c2 h
    refine wt_iconst hE (-1 : Int32) wp_rw_findLeast_d88 wt_ci_m1 ?_
    refine wt_istore_n hE [some (.ref (wt_ad (wt_xw X) 81)), some (.int x1), some (.int x2), some (.int (-1 : Int32)), none, none] wp_rw_findLeast_d89 (by decide) rfl ?_
    refine wt_aload_n hE wp_rw_findLeast_d90 rfl ?_
    refine wt_iconst hE (-1 : Int32) wp_rw_findLeast_d91 wt_ci_m1 ?_
    refine wt_puti hE wt_lf_rw_44 (hD 81 (Nat.le_of_ble_eq_true rfl)) wt_L81 rfl (fun q hq => by cases hq; rfl) wp_rw_findLeast_d92 ?_
    refine wt_iconst hE (0 : Int32) wp_rw_findLeast_d95 wt_ci_0 ?_
    refine wt_istore hE [some (.ref (wt_ad (wt_xw X) 81)), some (.int x1), some (.int x2), some (.int (-1 : Int32)), some (.int (0 : Int32)), none] wp_rw_findLeast_d96 (Nat.le_of_ble_eq_true rfl) rfl ?_
    exact wt_it_ind (fun z => wt_V X 0 z.2.2 98 [some (.ref (wt_ad (wt_xw X) 81)), some (.int x1), some (.int x2), some (.int z.1), some (.int z.2.1), none] []) (fun K hK z h => wp_rw_findLeast_B98_ok hE hR hD hK h) n ((-1 : Int32), (0 : Int32), (wt_sf s.2 81 9 (-1 : Int32))) h
  · have h := wt_in c2 h
    refine wt_aload_n hE wp_rw_findLeast_d17 rfl ?_
    refine wt_getr hE (r := 34) wt_lf_rw_19 (hD 81 (Nat.le_of_ble_eq_true rfl)) wt_L81 rfl wp_rw_findLeast_d18 ?_
    refine wt_iload_n hE wp_rw_findLeast_d21 rfl ?_
    refine wt_iload_n hE wp_rw_findLeast_d22 rfl ?_
    obtain ⟨q9, hq9, h⟩ := wt_bi h
    refine wt_callVi hE [.int x1, .int s.1] wt_lm_rw_72 wt_ya_tx_wordAt (wp_tx_wordAt_ok hD hq9) (by omega) (hD 34 (Nat.le_of_ble_eq_true rfl)) wt_L34 rfl rfl rfl (Nat.le_of_ble_eq_true rfl) (Nat.zero_le _) wp_rw_findLeast_d23 (fun hbq9 => ?_)
    refine wt_istore hE [some (.ref (wt_ad (wt_xw X) 81)), some (.int x1), some (.int x2), some (.int s.1), some (.int q9.1), none] wp_rw_findLeast_d26 (Nat.le_of_ble_eq_true rfl) rfl ?_
    refine wt_iconst hE (0 : Int32) wp_rw_findLeast_d28 wt_ci_0 ?_
    refine wt_istore hE [some (.ref (wt_ad (wt_xw X) 81)), some (.int x1), some (.int x2), some (.int s.1), some (.int q9.1), some (.int (0 : Int32))] wp_rw_findLeast_d29 (Nat.le_of_ble_eq_true rfl) rfl ?_
    exact wt_it_ind (fun z => wt_V X 0 z.2 31 [some (.ref (wt_ad (wt_xw X) 81)), some (.int x1), some (.int x2), some (.int s.1), some (.int q9.1), some (.int z.1)] []) (fun K hK z h => wp_rw_findLeast_B31_ok hE hR hD hK13 hK h) n ((0 : Int32), q9.2) h
noncomputable def wp_rw_findLeast (n : Nat) (x1 : Int32) (σ : wt_St) : Option (wt_St) :=
  (wp_tx_lengthOf n x1 σ).bind fun q1 =>
  wt_it (wp_rw_findLeast_B13 n x1 q1.1) n ((q1.1 - (1 : Int32)), q1.2)
set_option maxRecDepth 100000 in
set_option maxHeartbeats 4000000 in
theorem wp_rw_findLeast_ok {l : Launch} {w : wt_E} {n : Nat} {x1 : Int32} (hD : ∀ i, i < 108 → wt_dom w i) {σ : wt_St} {q : wt_St} (h : wp_rw_findLeast n x1 σ = some q) : wt_Ctr l w wt_y_rw_findLeast prog_4_method_6_code 6 none 6 [.ref (wt_ad w 81), .int x1] σ none q := by
  refine wt_ctr wt_pl_rw_findLeast rfl (Nat.le_of_ble_eq_true rfl) [some (.ref (wt_ad w 81)), some (.int x1), none, none, none, none] rfl ?_
  intro X hXl hXw hE hR
  subst hXl
  subst hXw
  have hE : wt_Ok X prog_4_method_6_code 6 "WornType$Rows" 6 0 := hE
  unfold wp_rw_findLeast at h
  refine wt_aload_n hE wp_rw_findLeast_d0 rfl ?_
  refine wt_getr hE (r := 34) wt_lf_rw_19 (hD 81 (Nat.le_of_ble_eq_true rfl)) wt_L81 rfl wp_rw_findLeast_d1 ?_
  refine wt_iload_n hE wp_rw_findLeast_d4 rfl ?_
  obtain ⟨q1, hq1, h⟩ := wt_bi h
  refine wt_callVi hE [.int x1] wt_lm_rw_66 wt_ya_tx_lengthOf (wp_tx_lengthOf_ok hD hq1) (by omega) (hD 34 (Nat.le_of_ble_eq_true rfl)) wt_L34 rfl rfl rfl (Nat.le_of_ble_eq_true rfl) (Nat.zero_le _) wp_rw_findLeast_d5 (fun hbq1 => ?_)
  refine wt_istore_n hE [some (.ref (wt_ad (wt_xw X) 81)), some (.int x1), some (.int q1.1), none, none, none] wp_rw_findLeast_d8 (by decide) rfl ?_
  refine wt_iload_n hE wp_rw_findLeast_d9 rfl ?_
  refine wt_iconst hE (1 : Int32) wp_rw_findLeast_d10 wt_ci_1 ?_
  refine wt_isub hE wp_rw_findLeast_d11 ?_
  refine wt_istore_n hE [some (.ref (wt_ad (wt_xw X) 81)), some (.int x1), some (.int q1.1), some (.int (q1.1 - (1 : Int32))), none, none] wp_rw_findLeast_d12 (by decide) rfl ?_
  exact wt_it_ind (fun z => wt_V X 0 z.2 13 [some (.ref (wt_ad (wt_xw X) 81)), some (.int x1), some (.int q1.1), some (.int z.1), none, none] []) (fun K hK z h => wp_rw_findLeast_B13_ok hE hR hD hK h) n ((q1.1 - (1 : Int32)), q1.2) h
