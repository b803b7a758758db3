def wb11m1_prog_11_method_12_code_r2 : List (List Nat) := [42, 180, 0, 39, 29, 44, 182, 0, 137, 4, 172] :: []
def wb11m1_prog_11_method_12_code_r1 : List (List Nat) := [180, 0, 39, 182, 0, 130, 42, 180, 0, 23, 42, 180, 0, 39, 29, 44, 182, 0, 133, 2, 159, 0, 5, 3, 172, 42, 180, 0, 23] :: wb11m1_prog_11_method_12_code_r2
def wb11m1_prog_11_method_12_code_r0 : List (List Nat) := [42, 180, 0, 19, 180, 0, 124, 27, 184, 0, 70, 62, 42, 180, 0, 15, 42, 180, 0, 19, 180, 0, 127, 27, 184, 0, 70, 42] :: wb11m1_prog_11_method_12_code_r1
set_option maxRecDepth 100000 in
theorem wb11m1_prog_11_method_12_code_c0 : wt_cs prog_11_method_12_code 0 wb11m1_prog_11_method_12_code_r0 := wt_cs_of (by decide +kernel)
theorem wb11m1_prog_11_method_12_code_c1 : wt_cs prog_11_method_12_code 28 wb11m1_prog_11_method_12_code_r1 := wt_cs_tl (m := 28) wb11m1_prog_11_method_12_code_c0 rfl rfl
theorem wb11m1_prog_11_method_12_code_c2 : wt_cs prog_11_method_12_code 57 wb11m1_prog_11_method_12_code_r2 := wt_cs_tl (m := 29) wb11m1_prog_11_method_12_code_c1 rfl rfl
theorem wp_wk_printOne_d0 : decode prog_11_method_12_code 0 = .ok (.aload_n 0, 1) := wt_op42 wb11m1_prog_11_method_12_code_c0 0 rfl rfl
theorem wp_wk_printOne_d1 : decode prog_11_method_12_code 1 = .ok (.getfield 19, 3) := wt_op180 wb11m1_prog_11_method_12_code_c0 1 rfl rfl rfl
theorem wp_wk_printOne_d4 : decode prog_11_method_12_code 4 = .ok (.getfield 124, 3) := wt_op180 wb11m1_prog_11_method_12_code_c0 4 rfl rfl rfl
theorem wp_wk_printOne_d7 : decode prog_11_method_12_code 7 = .ok (.iload_n 1, 1) := wt_op27 wb11m1_prog_11_method_12_code_c0 7 rfl rfl
theorem wp_wk_printOne_d8 : decode prog_11_method_12_code 8 = .ok (.invokestatic 70, 3) := wt_op184 wb11m1_prog_11_method_12_code_c0 8 rfl rfl rfl
theorem wp_wk_printOne_d11 : decode prog_11_method_12_code 11 = .ok (.istore_n 3, 1) := wt_op62 wb11m1_prog_11_method_12_code_c0 11 rfl rfl
theorem wp_wk_printOne_d12 : decode prog_11_method_12_code 12 = .ok (.aload_n 0, 1) := wt_op42 wb11m1_prog_11_method_12_code_c0 12 rfl rfl
theorem wp_wk_printOne_d13 : decode prog_11_method_12_code 13 = .ok (.getfield 15, 3) := wt_op180 wb11m1_prog_11_method_12_code_c0 13 rfl rfl rfl
theorem wp_wk_printOne_d16 : decode prog_11_method_12_code 16 = .ok (.aload_n 0, 1) := wt_op42 wb11m1_prog_11_method_12_code_c0 16 rfl rfl
theorem wp_wk_printOne_d17 : decode prog_11_method_12_code 17 = .ok (.getfield 19, 3) := wt_op180 wb11m1_prog_11_method_12_code_c0 17 rfl rfl rfl
theorem wp_wk_printOne_d20 : decode prog_11_method_12_code 20 = .ok (.getfield 127, 3) := wt_op180 wb11m1_prog_11_method_12_code_c0 20 rfl rfl rfl
theorem wp_wk_printOne_d23 : decode prog_11_method_12_code 23 = .ok (.iload_n 1, 1) := wt_op27 wb11m1_prog_11_method_12_code_c0 23 rfl rfl
theorem wp_wk_printOne_d24 : decode prog_11_method_12_code 24 = .ok (.invokestatic 70, 3) := wt_op184 wb11m1_prog_11_method_12_code_c0 24 rfl rfl rfl
theorem wp_wk_printOne_d27 : decode prog_11_method_12_code 27 = .ok (.aload_n 0, 1) := wt_op42 wb11m1_prog_11_method_12_code_c0 27 rfl rfl
theorem wp_wk_printOne_d28 : decode prog_11_method_12_code 28 = .ok (.getfield 39, 3) := wt_op180 wb11m1_prog_11_method_12_code_c1 0 rfl rfl rfl
theorem wp_wk_printOne_d31 : decode prog_11_method_12_code 31 = .ok (.invokevirtual 130, 3) := wt_op182 wb11m1_prog_11_method_12_code_c1 3 rfl rfl rfl
theorem wp_wk_printOne_d34 : decode prog_11_method_12_code 34 = .ok (.aload_n 0, 1) := wt_op42 wb11m1_prog_11_method_12_code_c1 6 rfl rfl
theorem wp_wk_printOne_d35 : decode prog_11_method_12_code 35 = .ok (.getfield 23, 3) := wt_op180 wb11m1_prog_11_method_12_code_c1 7 rfl rfl rfl
theorem wp_wk_printOne_d38 : decode prog_11_method_12_code 38 = .ok (.aload_n 0, 1) := wt_op42 wb11m1_prog_11_method_12_code_c1 10 rfl rfl
theorem wp_wk_printOne_d39 : decode prog_11_method_12_code 39 = .ok (.getfield 39, 3) := wt_op180 wb11m1_prog_11_method_12_code_c1 11 rfl rfl rfl
theorem wp_wk_printOne_d42 : decode prog_11_method_12_code 42 = .ok (.iload_n 3, 1) := wt_op29 wb11m1_prog_11_method_12_code_c1 14 rfl rfl
theorem wp_wk_printOne_d43 : decode prog_11_method_12_code 43 = .ok (.aload_n 2, 1) := wt_op44 wb11m1_prog_11_method_12_code_c1 15 rfl rfl
theorem wp_wk_printOne_d44 : decode prog_11_method_12_code 44 = .ok (.invokevirtual 133, 3) := wt_op182 wb11m1_prog_11_method_12_code_c1 16 rfl rfl rfl
theorem wp_wk_printOne_d47 : decode prog_11_method_12_code 47 = .ok (.iconst (-1), 1) := wt_op2 wb11m1_prog_11_method_12_code_c1 19 rfl rfl
theorem wp_wk_printOne_d48 : decode prog_11_method_12_code 48 = .ok (.if_icmp .eq 5, 3) := wt_op159 wb11m1_prog_11_method_12_code_c1 20 rfl rfl rfl
theorem wp_wk_printOne_d51 : decode prog_11_method_12_code 51 = .ok (.iconst 0, 1) := wt_op3 wb11m1_prog_11_method_12_code_c1 23 rfl rfl
theorem wp_wk_printOne_d52 : decode prog_11_method_12_code 52 = .ok (.ireturn, 1) := wt_op172 wb11m1_prog_11_method_12_code_c1 24 rfl rfl
theorem wp_wk_printOne_d53 : decode prog_11_method_12_code 53 = .ok (.aload_n 0, 1) := wt_op42 wb11m1_prog_11_method_12_code_c1 25 rfl rfl
theorem wp_wk_printOne_d54 : decode prog_11_method_12_code 54 = .ok (.getfield 23, 3) := wt_op180 wb11m1_prog_11_method_12_code_c1 26 rfl rfl rfl
theorem wp_wk_printOne_d57 : decode prog_11_method_12_code 57 = .ok (.aload_n 0, 1) := wt_op42 wb11m1_prog_11_method_12_code_c2 0 rfl rfl
theorem wp_wk_printOne_d58 : decode prog_11_method_12_code 58 = .ok (.getfield 39, 3) := wt_op180 wb11m1_prog_11_method_12_code_c2 1 rfl rfl rfl
theorem wp_wk_printOne_d61 : decode prog_11_method_12_code 61 = .ok (.iload_n 3, 1) := wt_op29 wb11m1_prog_11_method_12_code_c2 4 rfl rfl
theorem wp_wk_printOne_d62 : decode prog_11_method_12_code 62 = .ok (.aload_n 2, 1) := wt_op44 wb11m1_prog_11_method_12_code_c2 5 rfl rfl
theorem wp_wk_printOne_d63 : decode prog_11_method_12_code 63 = .ok (.invokevirtual 137, 3) := wt_op182 wb11m1_prog_11_method_12_code_c2 6 rfl rfl rfl
theorem wp_wk_printOne_d66 : decode prog_11_method_12_code 66 = .ok (.iconst 1, 1) := wt_op4 wb11m1_prog_11_method_12_code_c2 9 rfl rfl
theorem wp_wk_printOne_d67 : decode prog_11_method_12_code 67 = .ok (.ireturn, 1) := wt_op172 wb11m1_prog_11_method_12_code_c2 10 rfl rfl
noncomputable def wp_wk_printOne (n : Nat) (a2 : Nat) (x1 : Int32) (σ : wt_St) : Option (Int32 × wt_St) :=
  (wp_ap_look n 45 x1 σ).bind fun q1 =>
  (wp_ap_look n 44 x1 q1.2).bind fun q2 =>
  (wp_tx_spell n 100 q2.1 q2.2).bind fun q3 =>
  (wp_sk_lacking n 100 a2 q1.1 q3).bind fun q4 =>
  if q4.1 = (-1 : Int32) then
    (wp_sk_wear n 100 a2 q1.1 q4.2).bind fun q6 =>
    some ((1 : Int32), q6)
  else
    some ((0 : Int32), q4.2)
set_option maxRecDepth 100000 in
set_option maxHeartbeats 4000000 in
theorem wp_wk_printOne_ok {l : Launch} {w : wt_E} {n : Nat} {a2 : Nat} {x1 : Int32} (hD : ∀ i, i < 108 → wt_dom w i) (hA_a2 : wt_LAY[a2]? = some (0, wt_ln a2, [])) (hd_a2 : wt_dom w a2) {σ : wt_St} {q : Int32 × wt_St} (h : wp_wk_printOne n a2 x1 σ = some q) : wt_Ctr l w wt_y_wk_printOne prog_11_method_12_code 4 (some .boolean) 4 [.ref (wt_ad w 86), .int x1, .ref (wt_ad w a2)] σ (some q.1) q.2 := by
  refine wt_ctr wt_pl_wk_printOne rfl (Nat.le_of_ble_eq_true rfl) [some (.ref (wt_ad w 86)), some (.int x1), some (.ref (wt_ad w a2)), none] rfl ?_
  intro X hXl hXw hE hR
  subst hXl
  subst hXw
  have hE : wt_Ok X prog_11_method_12_code 4 "WornType$Weeks" 4 0 := hE
  unfold wp_wk_printOne at h
  refine wt_aload_n hE wp_wk_printOne_d0 rfl ?_
  refine wt_getr hE (r := 39) wt_lf_wk_19 (hD 86 (Nat.le_of_ble_eq_true rfl)) wt_L86 rfl wp_wk_printOne_d1 ?_
  refine wt_getr hE (r := 45) wt_lf_wk_124 (hD 39 (Nat.le_of_ble_eq_true rfl)) wt_L39 rfl wp_wk_printOne_d4 ?_
  refine wt_iload_n hE wp_wk_printOne_d7 rfl ?_
  obtain ⟨q1, hq1, h⟩ := wt_bi h
  refine wt_callSi hE [.ref (wt_ad (wt_xw X) 45), .int x1] wt_lm_wk_70 wt_ya_ap_look (wp_ap_look_ok (wt_lnE wt_L45) (hD 45 (Nat.le_of_ble_eq_true rfl)) hq1) (by omega) rfl rfl (Nat.le_of_ble_eq_true rfl) (Nat.zero_le _) wp_wk_printOne_d8 (fun hbq1 => ?_)
  refine wt_istore_n hE [some (.ref (wt_ad (wt_xw X) 86)), some (.int x1), some (.ref (wt_ad (wt_xw X) a2)), some (.int q1.1)] wp_wk_printOne_d11 (by decide) rfl ?_
  refine wt_aload_n hE wp_wk_printOne_d12 rfl ?_
  refine wt_getr hE (r := 34) wt_lf_wk_15 (hD 86 (Nat.le_of_ble_eq_true rfl)) wt_L86 rfl wp_wk_printOne_d13 ?_
  refine wt_aload_n hE wp_wk_printOne_d16 rfl ?_
  refine wt_getr hE (r := 39) wt_lf_wk_19 (hD 86 (Nat.le_of_ble_eq_true rfl)) wt_L86 rfl wp_wk_printOne_d17 ?_
  refine wt_getr hE (r := 44) wt_lf_wk_127 (hD 39 (Nat.le_of_ble_eq_true rfl)) wt_L39 rfl wp_wk_printOne_d20 ?_
  refine wt_iload_n hE wp_wk_printOne_d23 rfl ?_
  obtain ⟨q2, hq2, h⟩ := wt_bi h
  refine wt_callSi hE [.ref (wt_ad (wt_xw X) 44), .int x1] wt_lm_wk_70 wt_ya_ap_look (wp_ap_look_ok (wt_lnE wt_L44) (hD 44 (Nat.le_of_ble_eq_true rfl)) hq2) (by omega) rfl rfl (Nat.le_of_ble_eq_true rfl) (Nat.zero_le _) wp_wk_printOne_d24 (fun hbq2 => ?_)
  refine wt_aload_n hE wp_wk_printOne_d27 rfl ?_
  refine wt_getr hE (r := 100) wt_lf_wk_39 (hD 86 (Nat.le_of_ble_eq_true rfl)) wt_L86 rfl wp_wk_printOne_d28 ?_
  obtain ⟨q3, hq3, h⟩ := wt_bi h
  refine wt_callVv hE [.int q2.1, .ref (wt_ad (wt_xw X) 100)] wt_lm_wk_130 wt_ya_tx_spell (wp_tx_spell_ok hD (wt_lnE wt_L100) (hD 100 (Nat.le_of_ble_eq_true rfl)) hq3) (by omega) (hD 34 (Nat.le_of_ble_eq_true rfl)) wt_L34 rfl rfl rfl (Nat.le_of_ble_eq_true rfl) (Nat.zero_le _) wp_wk_printOne_d31 ?_
  refine wt_aload_n hE wp_wk_printOne_d34 rfl ?_
  refine wt_getr hE (r := 76) wt_lf_wk_23 (hD 86 (Nat.le_of_ble_eq_true rfl)) wt_L86 rfl wp_wk_printOne_d35 ?_
  refine wt_aload_n hE wp_wk_printOne_d38 rfl ?_
  refine wt_getr hE (r := 100) wt_lf_wk_39 (hD 86 (Nat.le_of_ble_eq_true rfl)) wt_L86 rfl wp_wk_printOne_d39 ?_
  refine wt_iload_n hE wp_wk_printOne_d42 rfl ?_
  refine wt_aload_n hE wp_wk_printOne_d43 rfl ?_
  obtain ⟨q4, hq4, h⟩ := wt_bi h
  refine wt_callVi hE [.ref (wt_ad (wt_xw X) 100), .int q1.1, .ref (wt_ad (wt_xw X) a2)] wt_lm_wk_133 wt_ya_sk_lacking (wp_sk_lacking_ok hD (wt_lnE wt_L100) (hD 100 (Nat.le_of_ble_eq_true rfl)) (wt_lnE hA_a2) hd_a2 hq4) (by omega) (hD 76 (Nat.le_of_ble_eq_true rfl)) wt_L76 rfl rfl rfl (Nat.le_of_ble_eq_true rfl) (Nat.zero_le _) wp_wk_printOne_d44 (fun hbq4 => ?_)
  refine wt_iconst hE (-1 : Int32) wp_wk_printOne_d47 wt_ci_m1 ?_
  refine wt_icmp_eq hE 53 wp_wk_printOne_d48 rfl (fun c5 => ?_) (fun c5 => ?_)
  · have h := wt_ip c5 h
    refine wt_aload_n hE wp_wk_printOne_d53 rfl ?_
    refine wt_getr hE (r := 76) wt_lf_wk_23 (hD 86 (Nat.le_of_ble_eq_true rfl)) wt_L86 rfl wp_wk_printOne_d54 ?_
    refine wt_aload_n hE wp_wk_printOne_d57 rfl ?_
    refine wt_getr hE (r := 100) wt_lf_wk_39 (hD 86 (Nat.le_of_ble_eq_true rfl)) wt_L86 rfl wp_wk_printOne_d58 ?_
    refine wt_iload_n hE wp_wk_printOne_d61 rfl ?_
    refine wt_aload_n hE wp_wk_printOne_d62 rfl ?_
    obtain ⟨q6, hq6, h⟩ := wt_bi h
    refine wt_callVv hE [.ref (wt_ad (wt_xw X) 100), .int q1.1, .ref (wt_ad (wt_xw X) a2)] wt_lm_wk_137 wt_ya_sk_wear (wp_sk_wear_ok hD (wt_lnE wt_L100) (hD 100 (Nat.le_of_ble_eq_true rfl)) (wt_lnE hA_a2) hd_a2 hq6) (by omega) (hD 76 (Nat.le_of_ble_eq_true rfl)) wt_L76 rfl rfl rfl (Nat.le_of_ble_eq_true rfl) (Nat.zero_le _) wp_wk_printOne_d63 ?_
    refine wt_iconst hE (1 : Int32) wp_wk_printOne_d66 wt_ci_1 ?_
    cases h
    exact wt_zret hE (by decide) hR wp_wk_printOne_d67
  · have h := wt_in c5 h
    refine wt_iconst hE (0 : Int32) wp_wk_printOne_d51 wt_ci_0 ?_
    cases h
    exact wt_zret hE (by decide) hR wp_wk_printOne_d52
def wb11m1_prog_11_method_11_code_r1 : List (List Nat) := [96, 181, 0, 45, 42, 89, 180, 0, 49, 4, 27, 120, 128, 181, 0, 49, 177] :: []
def wb11m1_prog_11_method_11_code_r0 : List (List Nat) := [42, 27, 42, 180, 0, 32, 182, 0, 117, 153, 0, 35, 42, 89, 180, 0, 45, 42, 180, 0, 19, 180, 0, 121, 27, 184, 0, 70] :: wb11m1_prog_11_method_11_code_r1
set_option maxRecDepth 100000 in
theorem wb11m1_prog_11_method_11_code_c0 : wt_cs prog_11_method_11_code 0 wb11m1_prog_11_method_11_code_r0 := wt_cs_of (by decide +kernel)
theorem wb11m1_prog_11_method_11_code_c1 : wt_cs prog_11_method_11_code 28 wb11m1_prog_11_method_11_code_r1 := wt_cs_tl (m := 28) wb11m1_prog_11_method_11_code_c0 rfl rfl
theorem wp_wk_printNext_d0 : decode prog_11_method_11_code 0 = .ok (.aload_n 0, 1) := wt_op42 wb11m1_prog_11_method_11_code_c0 0 rfl rfl
theorem wp_wk_printNext_d1 : decode prog_11_method_11_code 1 = .ok (.iload_n 1, 1) := wt_op27 wb11m1_prog_11_method_11_code_c0 1 rfl rfl
theorem wp_wk_printNext_d2 : decode prog_11_method_11_code 2 = .ok (.aload_n 0, 1) := wt_op42 wb11m1_prog_11_method_11_code_c0 2 rfl rfl
theorem wp_wk_printNext_d3 : decode prog_11_method_11_code 3 = .ok (.getfield 32, 3) := wt_op180 wb11m1_prog_11_method_11_code_c0 3 rfl rfl rfl
theorem wp_wk_printNext_d6 : decode prog_11_method_11_code 6 = .ok (.invokevirtual 117, 3) := wt_op182 wb11m1_prog_11_method_11_code_c0 6 rfl rfl rfl
theorem wp_wk_printNext_d9 : decode prog_11_method_11_code 9 = .ok (.ifCond .eq 35, 3) := wt_op153 wb11m1_prog_11_method_11_code_c0 9 rfl rfl rfl
theorem wp_wk_printNext_d12 : decode prog_11_method_11_code 12 = .ok (.aload_n 0, 1) := wt_op42 wb11m1_prog_11_method_11_code_c0 12 rfl rfl
theorem wp_wk_printNext_d13 : decode prog_11_method_11_code 13 = .ok (.dup, 1) := wt_op89 wb11m1_prog_11_method_11_code_c0 13 rfl rfl
theorem wp_wk_printNext_d14 : decode prog_11_method_11_code 14 = .ok (.getfield 45, 3) := wt_op180 wb11m1_prog_11_method_11_code_c0 14 rfl rfl rfl
theorem wp_wk_printNext_d17 : decode prog_11_method_11_code 17 = .ok (.aload_n 0, 1) := wt_op42 wb11m1_prog_11_method_11_code_c0 17 rfl rfl
theorem wp_wk_printNext_d18 : decode prog_11_method_11_code 18 = .ok (.getfield 19, 3) := wt_op180 wb11m1_prog_11_method_11_code_c0 18 rfl rfl rfl
theorem wp_wk_printNext_d21 : decode prog_11_method_11_code 21 = .ok (.getfield 121, 3) := wt_op180 wb11m1_prog_11_method_11_code_c0 21 rfl rfl rfl
theorem wp_wk_printNext_d24 : decode prog_11_method_11_code 24 = .ok (.iload_n 1, 1) := wt_op27 wb11m1_prog_11_method_11_code_c0 24 rfl rfl
theorem wp_wk_printNext_d25 : decode prog_11_method_11_code 25 = .ok (.invokestatic 70, 3) := wt_op184 wb11m1_prog_11_method_11_code_c0 25 rfl rfl rfl
theorem wp_wk_printNext_d28 : decode prog_11_method_11_code 28 = .ok (.iadd, 1) := wt_op96 wb11m1_prog_11_method_11_code_c1 0 rfl rfl
theorem wp_wk_printNext_d29 : decode prog_11_method_11_code 29 = .ok (.putfield 45, 3) := wt_op181 wb11m1_prog_11_method_11_code_c1 1 rfl rfl rfl
theorem wp_wk_printNext_d32 : decode prog_11_method_11_code 32 = .ok (.aload_n 0, 1) := wt_op42 wb11m1_prog_11_method_11_code_c1 4 rfl rfl
theorem wp_wk_printNext_d33 : decode prog_11_method_11_code 33 = .ok (.dup, 1) := wt_op89 wb11m1_prog_11_method_11_code_c1 5 rfl rfl
theorem wp_wk_printNext_d34 : decode prog_11_method_11_code 34 = .ok (.getfield 49, 3) := wt_op180 wb11m1_prog_11_method_11_code_c1 6 rfl rfl rfl
theorem wp_wk_printNext_d37 : decode prog_11_method_11_code 37 = .ok (.iconst 1, 1) := wt_op4 wb11m1_prog_11_method_11_code_c1 9 rfl rfl
theorem wp_wk_printNext_d38 : decode prog_11_method_11_code 38 = .ok (.iload_n 1, 1) := wt_op27 wb11m1_prog_11_method_11_code_c1 10 rfl rfl
theorem wp_wk_printNext_d39 : decode prog_11_method_11_code 39 = .ok (.ishl, 1) := wt_op120 wb11m1_prog_11_method_11_code_c1 11 rfl rfl
theorem wp_wk_printNext_d40 : decode prog_11_method_11_code 40 = .ok (.ior, 1) := wt_op128 wb11m1_prog_11_method_11_code_c1 12 rfl rfl
theorem wp_wk_printNext_d41 : decode prog_11_method_11_code 41 = .ok (.putfield 49, 3) := wt_op181 wb11m1_prog_11_method_11_code_c1 13 rfl rfl rfl
theorem wp_wk_printNext_d44 : decode prog_11_method_11_code 44 = .ok (.return_, 1) := wt_op177 wb11m1_prog_11_method_11_code_c1 16 rfl rfl
noncomputable def wp_wk_printNext (n : Nat) (x1 : Int32) (σ : wt_St) : Option (wt_St) :=
  (wp_wk_printOne n 98 x1 σ).bind fun q1 =>
  if q1.1 = 0 then
    some q1.2
  else
    (wp_ap_look n 47 x1 q1.2).bind fun q3 =>
    some (wt_sf (wt_sf q3.2 86 8 ((wt_gf q1.2 86 8) + q3.1)) 86 9 ((wt_gf (wt_sf q3.2 86 8 ((wt_gf q1.2 86 8) + q3.1)) 86 9) ||| ((1 : Int32) <<< (x1 &&& 31))))
set_option maxRecDepth 100000 in
set_option maxHeartbeats 4000000 in
theorem wp_wk_printNext_ok {l : Launch} {w : wt_E} {n : Nat} {x1 : Int32} (hD : ∀ i, i < 108 → wt_dom w i) {σ : wt_St} {q : wt_St} (h : wp_wk_printNext n x1 σ = some q) : wt_Ctr l w wt_y_wk_printNext prog_11_method_11_code 2 none 5 [.ref (wt_ad w 86), .int x1] σ none q := by
  refine wt_ctr wt_pl_wk_printNext rfl (Nat.le_of_ble_eq_true rfl) [some (.ref (wt_ad w 86)), some (.int x1)] rfl ?_
  intro X hXl hXw hE hR
  subst hXl
  subst hXw
  have hE : wt_Ok X prog_11_method_11_code 2 "WornType$Weeks" 5 0 := hE
  unfold wp_wk_printNext at h
  refine wt_aload_n hE wp_wk_printNext_d0 rfl ?_
  refine wt_iload_n hE wp_wk_printNext_d1 rfl ?_
  refine wt_aload_n hE wp_wk_printNext_d2 rfl ?_
  refine wt_getr hE (r := 98) wt_lf_wk_32 (hD 86 (Nat.le_of_ble_eq_true rfl)) wt_L86 rfl wp_wk_printNext_d3 ?_
  obtain ⟨q1, hq1, h⟩ := wt_bi h
  refine wt_callVi hE [.int x1, .ref (wt_ad (wt_xw X) 98)] wt_lm_wk_117 wt_ya_wk_printOne (wp_wk_printOne_ok hD (wt_lnE wt_L98) (hD 98 (Nat.le_of_ble_eq_true rfl)) hq1) (by omega) (hD 86 (Nat.le_of_ble_eq_true rfl)) wt_L86 rfl rfl rfl (Nat.le_of_ble_eq_true rfl) (Nat.zero_le _) wp_wk_printNext_d6 (fun hbq1 => ?_)
  refine wt_if_eq hE 44 wp_wk_printNext_d9 rfl (fun c2 => ?_) (fun c2 => ?_)
  · have h := wt_ip c2 h
    cases h
    exact wt_vret hE hR wp_wk_printNext_d44
  · have h := wt_in c2 h
    refine wt_aload_n hE wp_wk_printNext_d12 rfl ?_
    refine wt_dup hE wp_wk_printNext_d13 rfl ?_
    refine wt_geti hE wt_lf_wk_45 (hD 86 (Nat.le_of_ble_eq_true rfl)) wt_L86 rfl wp_wk_printNext_d14 ?_
    refine wt_aload_n hE wp_wk_printNext_d17 rfl ?_
    refine wt_getr hE (r := 39) wt_lf_wk_19 (hD 86 (Nat.le_of_ble_eq_true rfl)) wt_L86 rfl wp_wk_printNext_d18 ?_
    refine wt_getr hE (r := 47) wt_lf_wk_121 (hD 39 (Nat.le_of_ble_eq_true rfl)) wt_L39 rfl wp_wk_printNext_d21 ?_
    refine wt_iload_n hE wp_wk_printNext_d24 rfl ?_
    obtain ⟨q3, hq3, h⟩ := wt_bi h
    refine wt_callSi hE [.ref (wt_ad (wt_xw X) 47), .int x1] wt_lm_wk_70 wt_ya_ap_look (wp_ap_look_ok (wt_lnE wt_L47) (hD 47 (Nat.le_of_ble_eq_true rfl)) hq3) (by omega) rfl rfl (Nat.le_of_ble_eq_true rfl) (Nat.zero_le _) wp_wk_printNext_d25 (fun hbq3 => ?_)
    refine wt_iadd hE wp_wk_printNext_d28 ?_
    refine wt_puti hE wt_lf_wk_45 (hD 86 (Nat.le_of_ble_eq_true rfl)) wt_L86 rfl (fun q hq => by cases hq; rfl) wp_wk_printNext_d29 ?_
    refine wt_aload_n hE wp_wk_printNext_d32 rfl ?_
    refine wt_dup hE wp_wk_printNext_d33 rfl ?_
    refine wt_geti hE wt_lf_wk_49 (hD 86 (Nat.le_of_ble_eq_true rfl)) wt_L86 rfl wp_wk_printNext_d34 ?_
    refine wt_iconst hE (1 : Int32) wp_wk_printNext_d37 wt_ci_1 ?_
    refine wt_iload_n hE wp_wk_printNext_d38 rfl ?_
    refine wt_ishl hE wp_wk_printNext_d39 ?_
    refine wt_ior hE wp_wk_printNext_d40 ?_
    refine wt_puti hE wt_lf_wk_49 (hD 86 (Nat.le_of_ble_eq_true rfl)) wt_L86 rfl (fun q hq => by cases hq; rfl) wp_wk_printNext_d41 ?_
    cases h
    exact wt_vret hE hR wp_wk_printNext_d44
def wb11m1_prog_11_method_13_code_r3 : List (List Nat) := [27, 184, 0, 141, 132, 1, 1, 167, 255, 167, 177] :: []
def wb11m1_prog_11_method_13_code_r2 : List (List Nat) := [180, 0, 36, 29, 42, 180, 0, 36, 29, 4, 100, 184, 0, 70, 184, 0, 141, 132, 3, 255, 167, 255, 207, 42, 180, 0, 36, 29] :: wb11m1_prog_11_method_13_code_r3
def wb11m1_prog_11_method_13_code_r1 : List (List Nat) := [158, 0, 51, 42, 180, 0, 19, 180, 0, 74, 42, 180, 0, 36, 29, 4, 100, 184, 0, 70, 184, 0, 70, 28, 164, 0, 27, 42] :: wb11m1_prog_11_method_13_code_r2
def wb11m1_prog_11_method_13_code_r0 : List (List Nat) := [3, 60, 27, 42, 180, 0, 19, 180, 0, 67, 162, 0, 84, 42, 180, 0, 19, 180, 0, 74, 27, 184, 0, 70, 61, 27, 62, 29] :: wb11m1_prog_11_method_13_code_r1
set_option maxRecDepth 100000 in
theorem wb11m1_prog_11_method_13_code_c0 : wt_cs prog_11_method_13_code 0 wb11m1_prog_11_method_13_code_r0 := wt_cs_of (by decide +kernel)
theorem wb11m1_prog_11_method_13_code_c1 : wt_cs prog_11_method_13_code 28 wb11m1_prog_11_method_13_code_r1 := wt_cs_tl (m := 28) wb11m1_prog_11_method_13_code_c0 rfl rfl
theorem wb11m1_prog_11_method_13_code_c2 : wt_cs prog_11_method_13_code 56 wb11m1_prog_11_method_13_code_r2 := wt_cs_tl (m := 28) wb11m1_prog_11_method_13_code_c1 rfl rfl
theorem wb11m1_prog_11_method_13_code_c3 : wt_cs prog_11_method_13_code 84 wb11m1_prog_11_method_13_code_r3 := wt_cs_tl (m := 28) wb11m1_prog_11_method_13_code_c2 rfl rfl
theorem wp_wk_sortByWeek_d0 : decode prog_11_method_13_code 0 = .ok (.iconst 0, 1) := wt_op3 wb11m1_prog_11_method_13_code_c0 0 rfl rfl
theorem wp_wk_sortByWeek_d1 : decode prog_11_method_13_code 1 = .ok (.istore_n 1, 1) := wt_op60 wb11m1_prog_11_method_13_code_c0 1 rfl rfl
theorem wp_wk_sortByWeek_d2 : decode prog_11_method_13_code 2 = .ok (.iload_n 1, 1) := wt_op27 wb11m1_prog_11_method_13_code_c0 2 rfl rfl
theorem wp_wk_sortByWeek_d3 : decode prog_11_method_13_code 3 = .ok (.aload_n 0, 1) := wt_op42 wb11m1_prog_11_method_13_code_c0 3 rfl rfl
theorem wp_wk_sortByWeek_d4 : decode prog_11_method_13_code 4 = .ok (.getfield 19, 3) := wt_op180 wb11m1_prog_11_method_13_code_c0 4 rfl rfl rfl
theorem wp_wk_sortByWeek_d7 : decode prog_11_method_13_code 7 = .ok (.getfield 67, 3) := wt_op180 wb11m1_prog_11_method_13_code_c0 7 rfl rfl rfl
theorem wp_wk_sortByWeek_d10 : decode prog_11_method_13_code 10 = .ok (.if_icmp .ge 84, 3) := wt_op162 wb11m1_prog_11_method_13_code_c0 10 rfl rfl rfl
theorem wp_wk_sortByWeek_d13 : decode prog_11_method_13_code 13 = .ok (.aload_n 0, 1) := wt_op42 wb11m1_prog_11_method_13_code_c0 13 rfl rfl
theorem wp_wk_sortByWeek_d14 : decode prog_11_method_13_code 14 = .ok (.getfield 19, 3) := wt_op180 wb11m1_prog_11_method_13_code_c0 14 rfl rfl rfl
theorem wp_wk_sortByWeek_d17 : decode prog_11_method_13_code 17 = .ok (.getfield 74, 3) := wt_op180 wb11m1_prog_11_method_13_code_c0 17 rfl rfl rfl
theorem wp_wk_sortByWeek_d20 : decode prog_11_method_13_code 20 = .ok (.iload_n 1, 1) := wt_op27 wb11m1_prog_11_method_13_code_c0 20 rfl rfl
theorem wp_wk_sortByWeek_d21 : decode prog_11_method_13_code 21 = .ok (.invokestatic 70, 3) := wt_op184 wb11m1_prog_11_method_13_code_c0 21 rfl rfl rfl
theorem wp_wk_sortByWeek_d24 : decode prog_11_method_13_code 24 = .ok (.istore_n 2, 1) := wt_op61 wb11m1_prog_11_method_13_code_c0 24 rfl rfl
theorem wp_wk_sortByWeek_d25 : decode prog_11_method_13_code 25 = .ok (.iload_n 1, 1) := wt_op27 wb11m1_prog_11_method_13_code_c0 25 rfl rfl
theorem wp_wk_sortByWeek_d26 : decode prog_11_method_13_code 26 = .ok (.istore_n 3, 1) := wt_op62 wb11m1_prog_11_method_13_code_c0 26 rfl rfl
theorem wp_wk_sortByWeek_d27 : decode prog_11_method_13_code 27 = .ok (.iload_n 3, 1) := wt_op29 wb11m1_prog_11_method_13_code_c0 27 rfl rfl
theorem wp_wk_sortByWeek_d28 : decode prog_11_method_13_code 28 = .ok (.ifCond .le 51, 3) := wt_op158 wb11m1_prog_11_method_13_code_c1 0 rfl rfl rfl
theorem wp_wk_sortByWeek_d31 : decode prog_11_method_13_code 31 = .ok (.aload_n 0, 1) := wt_op42 wb11m1_prog_11_method_13_code_c1 3 rfl rfl
theorem wp_wk_sortByWeek_d32 : decode prog_11_method_13_code 32 = .ok (.getfield 19, 3) := wt_op180 wb11m1_prog_11_method_13_code_c1 4 rfl rfl rfl
theorem wp_wk_sortByWeek_d35 : decode prog_11_method_13_code 35 = .ok (.getfield 74, 3) := wt_op180 wb11m1_prog_11_method_13_code_c1 7 rfl rfl rfl
theorem wp_wk_sortByWeek_d38 : decode prog_11_method_13_code 38 = .ok (.aload_n 0, 1) := wt_op42 wb11m1_prog_11_method_13_code_c1 10 rfl rfl
theorem wp_wk_sortByWeek_d39 : decode prog_11_method_13_code 39 = .ok (.getfield 36, 3) := wt_op180 wb11m1_prog_11_method_13_code_c1 11 rfl rfl rfl
theorem wp_wk_sortByWeek_d42 : decode prog_11_method_13_code 42 = .ok (.iload_n 3, 1) := wt_op29 wb11m1_prog_11_method_13_code_c1 14 rfl rfl
theorem wp_wk_sortByWeek_d43 : decode prog_11_method_13_code 43 = .ok (.iconst 1, 1) := wt_op4 wb11m1_prog_11_method_13_code_c1 15 rfl rfl
theorem wp_wk_sortByWeek_d44 : decode prog_11_method_13_code 44 = .ok (.isub, 1) := wt_op100 wb11m1_prog_11_method_13_code_c1 16 rfl rfl
theorem wp_wk_sortByWeek_d45 : decode prog_11_method_13_code 45 = .ok (.invokestatic 70, 3) := wt_op184 wb11m1_prog_11_method_13_code_c1 17 rfl rfl rfl
theorem wp_wk_sortByWeek_d48 : decode prog_11_method_13_code 48 = .ok (.invokestatic 70, 3) := wt_op184 wb11m1_prog_11_method_13_code_c1 20 rfl rfl rfl
theorem wp_wk_sortByWeek_d51 : decode prog_11_method_13_code 51 = .ok (.iload_n 2, 1) := wt_op28 wb11m1_prog_11_method_13_code_c1 23 rfl rfl
theorem wp_wk_sortByWeek_d52 : decode prog_11_method_13_code 52 = .ok (.if_icmp .le 27, 3) := wt_op164 wb11m1_prog_11_method_13_code_c1 24 rfl rfl rfl
theorem wp_wk_sortByWeek_d55 : decode prog_11_method_13_code 55 = .ok (.aload_n 0, 1) := wt_op42 wb11m1_prog_11_method_13_code_c1 27 rfl rfl
theorem wp_wk_sortByWeek_d56 : decode prog_11_method_13_code 56 = .ok (.getfield 36, 3) := wt_op180 wb11m1_prog_11_method_13_code_c2 0 rfl rfl rfl
theorem wp_wk_sortByWeek_d59 : decode prog_11_method_13_code 59 = .ok (.iload_n 3, 1) := wt_op29 wb11m1_prog_11_method_13_code_c2 3 rfl rfl
theorem wp_wk_sortByWeek_d60 : decode prog_11_method_13_code 60 = .ok (.aload_n 0, 1) := wt_op42 wb11m1_prog_11_method_13_code_c2 4 rfl rfl
theorem wp_wk_sortByWeek_d61 : decode prog_11_method_13_code 61 = .ok (.getfield 36, 3) := wt_op180 wb11m1_prog_11_method_13_code_c2 5 rfl rfl rfl
theorem wp_wk_sortByWeek_d64 : decode prog_11_method_13_code 64 = .ok (.iload_n 3, 1) := wt_op29 wb11m1_prog_11_method_13_code_c2 8 rfl rfl
theorem wp_wk_sortByWeek_d65 : decode prog_11_method_13_code 65 = .ok (.iconst 1, 1) := wt_op4 wb11m1_prog_11_method_13_code_c2 9 rfl rfl
theorem wp_wk_sortByWeek_d66 : decode prog_11_method_13_code 66 = .ok (.isub, 1) := wt_op100 wb11m1_prog_11_method_13_code_c2 10 rfl rfl
theorem wp_wk_sortByWeek_d67 : decode prog_11_method_13_code 67 = .ok (.invokestatic 70, 3) := wt_op184 wb11m1_prog_11_method_13_code_c2 11 rfl rfl rfl
theorem wp_wk_sortByWeek_d70 : decode prog_11_method_13_code 70 = .ok (.invokestatic 141, 3) := wt_op184 wb11m1_prog_11_method_13_code_c2 14 rfl rfl rfl
theorem wp_wk_sortByWeek_d73 : decode prog_11_method_13_code 73 = .ok (.iinc 3 (-1), 3) := wt_op132 wb11m1_prog_11_method_13_code_c2 17 rfl rfl rfl
theorem wp_wk_sortByWeek_d76 : decode prog_11_method_13_code 76 = .ok (.goto (-49), 3) := wt_op167 wb11m1_prog_11_method_13_code_c2 20 rfl rfl rfl
theorem wp_wk_sortByWeek_d79 : decode prog_11_method_13_code 79 = .ok (.aload_n 0, 1) := wt_op42 wb11m1_prog_11_method_13_code_c2 23 rfl rfl
theorem wp_wk_sortByWeek_d80 : decode prog_11_method_13_code 80 = .ok (.getfield 36, 3) := wt_op180 wb11m1_prog_11_method_13_code_c2 24 rfl rfl rfl
theorem wp_wk_sortByWeek_d83 : decode prog_11_method_13_code 83 = .ok (.iload_n 3, 1) := wt_op29 wb11m1_prog_11_method_13_code_c2 27 rfl rfl
theorem wp_wk_sortByWeek_d84 : decode prog_11_method_13_code 84 = .ok (.iload_n 1, 1) := wt_op27 wb11m1_prog_11_method_13_code_c3 0 rfl rfl
theorem wp_wk_sortByWeek_d85 : decode prog_11_method_13_code 85 = .ok (.invokestatic 141, 3) := wt_op184 wb11m1_prog_11_method_13_code_c3 1 rfl rfl rfl
theorem wp_wk_sortByWeek_d88 : decode prog_11_method_13_code 88 = .ok (.iinc 1 1, 3) := wt_op132 wb11m1_prog_11_method_13_code_c3 4 rfl rfl rfl
theorem wp_wk_sortByWeek_d91 : decode prog_11_method_13_code 91 = .ok (.goto (-89), 3) := wt_op167 wb11m1_prog_11_method_13_code_c3 7 rfl rfl rfl
theorem wp_wk_sortByWeek_d94 : decode prog_11_method_13_code 94 = .ok (.return_, 1) := wt_op177 wb11m1_prog_11_method_13_code_c3 10 rfl rfl
noncomputable def wp_wk_sortByWeek_B79 (n : Nat) (x1 : Int32) (x3 : Int32) (K2 : Int32 × wt_St → Option (wt_St)) (σ : wt_St) : Option (wt_St) :=
  (wp_ap_put n 99 x3 x1 σ).bind fun q4 =>
  K2 ((x1 + (1 : Int32)), q4)
set_option maxRecDepth 100000 in
set_option maxHeartbeats 4000000 in
theorem wp_wk_sortByWeek_B79_ok  {x1 : Int32} {x3 : Int32} {X : wt_X} {n : Nat} {res : wt_St} (hE : wt_Ok X prog_11_method_13_code 4 "WornType$Weeks" 1 0) (hR : wt_Rt X none none res) (hD : ∀ i, i < 108 → wt_dom (wt_xw X) i)  {K2 : Int32 × wt_St → Option (wt_St)} (hK2 : ∀ s : Int32 × wt_St, K2 s = some res → wt_V X 0 s.2 2 [some (.ref (wt_ad (wt_xw X) 86)), some (.int s.1), none, none] []) {σ : wt_St} (h : wp_wk_sortByWeek_B79 n x1 x3 K2 σ = some res) : wt_V X 0 σ 79 [some (.ref (wt_ad (wt_xw X) 86)), some (.int x1), none, some (.int x3)] [] := by
  unfold wp_wk_sortByWeek_B79 at h
  refine wt_aload_n hE wp_wk_sortByWeek_d79 rfl ?_
  refine wt_getr hE (r := 99) wt_lf_wk_36 (hD 86 (Nat.le_of_ble_eq_true rfl)) wt_L86 rfl wp_wk_sortByWeek_d80 ?_
  refine wt_iload_n hE wp_wk_sortByWeek_d83 rfl ?_
  refine wt_iload_n hE wp_wk_sortByWeek_d84 rfl ?_
  obtain ⟨q4, hq4, h⟩ := wt_bi h
  refine wt_callSv hE [.ref (wt_ad (wt_xw X) 99), .int x3, .int x1] wt_lm_wk_141 wt_ya_ap_put (wp_ap_put_ok (wt_lnE wt_L99) (hD 99 (Nat.le_of_ble_eq_true rfl)) hq4) (by omega) rfl rfl (Nat.le_of_ble_eq_true rfl) (Nat.zero_le _) wp_wk_sortByWeek_d85 ?_
  refine wt_iinc hE (x1 + (1 : Int32)) [some (.ref (wt_ad (wt_xw X) 86)), some (.int (x1 + (1 : Int32))), none, some (.int x3)] wp_wk_sortByWeek_d88 (by decide) rfl rfl rfl ?_
  refine wt_goto hE 2 wp_wk_sortByWeek_d91 rfl ?_
  refine wt_wk [true, true, true, false] rfl ?_
  exact hK2 ((x1 + (1 : Int32)), q4) h
noncomputable def wp_wk_sortByWeek_B27 (n : Nat) (x1 : Int32) (x2 : Int32) (K2 : Int32 × wt_St → Option (wt_St)) (K27 : Int32 × wt_St → Option (wt_St)) (s : Int32 × wt_St) : Option (wt_St) :=
  if s.1 ≤ 0 then
    wp_wk_sortByWeek_B79 n x1 s.1 K2 s.2
  else
    (wp_ap_look n 99 (s.1 - (1 : Int32)) s.2).bind fun q5 =>
    (wp_ap_look n 46 q5.1 q5.2).bind fun q6 =>
    if q6.1 ≤ x2 then
      wp_wk_sortByWeek_B79 n x1 s.1 K2 q6.2
    else
      (wp_ap_look n 99 (s.1 - (1 : Int32)) q6.2).bind fun q8 =>
      (wp_ap_put n 99 s.1 q8.1 q8.2).bind fun q9 =>
      K27 ((s.1 + (-1 : Int32)), q9)
set_option maxRecDepth 100000 in
set_option maxHeartbeats 4000000 in
theorem wp_wk_sortByWeek_B27_ok  {x1 : Int32} {x2 : Int32} {X : wt_X} {n : Nat} {res : wt_St} (hE : wt_Ok X prog_11_method_13_code 4 "WornType$Weeks" 1 0) (hR : wt_Rt X none none res) (hD : ∀ i, i < 108 → wt_dom (wt_xw X) i)  {K2 : Int32 × wt_St → Option (wt_St)} (hK2 : ∀ s : Int32 × wt_St, K2 s = some res → wt_V X 0 s.2 2 [some (.ref (wt_ad (wt_xw X) 86)), some (.int s.1), none, none] []) {K27 : Int32 × wt_St → Option (wt_St)} (hK27 : ∀ s : Int32 × wt_St, K27 s = some res → wt_V X 0 s.2 27 [some (.ref (wt_ad (wt_xw X) 86)), some (.int x1), some (.int x2), some (.int s.1)] []) {s : Int32 × wt_St} (h : wp_wk_sortByWeek_B27 n x1 x2 K2 K27 s = some res) : wt_V X 0 s.2 27 [some (.ref (wt_ad (wt_xw X) 86)), some (.int x1), some (.int x2), some (.int s.1)] [] := by
  unfold wp_wk_sortByWeek_B27 at h
  refine wt_iload_n hE wp_wk_sortByWeek_d27 rfl ?_
  refine wt_if_le hE 79 wp_wk_sortByWeek_d28 rfl (fun c3 => ?_) (fun c3 => ?_)
  · have h := wt_ip c3 h
    refine wt_wk [true, true, false, true] rfl ?_
    exact wp_wk_sortByWeek_B79_ok hE hR hD hK2 h
  · have h := wt_in c3 h
    refine wt_aload_n hE wp_wk_sortByWeek_d31 rfl ?_
    refine wt_getr hE (r := 39) wt_lf_wk_19 (hD 86 (Nat.le_of_ble_eq_true rfl)) wt_L86 rfl wp_wk_sortByWeek_d32 ?_
    refine wt_getr hE (r := 46) wt_lf_wk_74 (hD 39 (Nat.le_of_ble_eq_true rfl)) wt_L39 rfl wp_wk_sortByWeek_d35 ?_
    refine wt_aload_n hE wp_wk_sortByWeek_d38 rfl ?_
    refine wt_getr hE (r := 99) wt_lf_wk_36 (hD 86 (Nat.le_of_ble_eq_true rfl)) wt_L86 rfl wp_wk_sortByWeek_d39 ?_
    refine wt_iload_n hE wp_wk_sortByWeek_d42 rfl ?_
    refine wt_iconst hE (1 : Int32) wp_wk_sortByWeek_d43 wt_ci_1 ?_
    refine wt_isub hE wp_wk_sortByWeek_d44 ?_
    obtain ⟨q5, hq5, h⟩ := wt_bi h
    refine wt_callSi hE [.ref (wt_ad (wt_xw X) 99), .int (s.1 - (1 : Int32))] wt_lm_wk_70 wt_ya_ap_look (wp_ap_look_ok (wt_lnE wt_L99) (hD 99 (Nat.le_of_ble_eq_true rfl)) hq5) (by omega) rfl rfl (Nat.le_of_ble_eq_true rfl) (Nat.zero_le _) wp_wk_sortByWeek_d45 (fun hbq5 => ?_)
    obtain ⟨q6, hq6, h⟩ := wt_bi h
    refine wt_callSi hE [.ref (wt_ad (wt_xw X) 46), .int q5.1] wt_lm_wk_70 wt_ya_ap_look (wp_ap_look_ok (wt_lnE wt_L46) (hD 46 (Nat.le_of_ble_eq_true rfl)) hq6) (by omega) rfl rfl (Nat.le_of_ble_eq_true rfl) (Nat.zero_le _) wp_wk_sortByWeek_d48 (fun hbq6 => ?_)
    refine wt_iload_n hE wp_wk_sortByWeek_d51 rfl ?_
    refine wt_icmp_le hE 79 wp_wk_sortByWeek_d52 rfl (fun c7 => ?_) (fun c7 => ?_)
    · have h := wt_ip c7 h
      refine wt_wk [true, true, false, true] rfl ?_
      exact wp_wk_sortByWeek_B79_ok hE hR hD hK2 h
    · have h := wt_in c7 h
      refine wt_aload_n hE wp_wk_sortByWeek_d55 rfl ?_
      refine wt_getr hE (r := 99) wt_lf_wk_36 (hD 86 (Nat.le_of_ble_eq_true rfl)) wt_L86 rfl wp_wk_sortByWeek_d56 ?_
      refine wt_iload_n hE wp_wk_sortByWeek_d59 rfl ?_
      refine wt_aload_n hE wp_wk_sortByWeek_d60 rfl ?_
      refine wt_getr hE (r := 99) wt_lf_wk_36 (hD 86 (Nat.le_of_ble_eq_true rfl)) wt_L86 rfl wp_wk_sortByWeek_d61 ?_
      refine wt_iload_n hE wp_wk_sortByWeek_d64 rfl ?_
      refine wt_iconst hE (1 : Int32) wp_wk_sortByWeek_d65 wt_ci_1 ?_
      refine wt_isub hE wp_wk_sortByWeek_d66 ?_
      obtain ⟨q8, hq8, h⟩ := wt_bi h
      refine wt_callSi hE [.ref (wt_ad (wt_xw X) 99), .int (s.1 - (1 : Int32))] wt_lm_wk_70 wt_ya_ap_look (wp_ap_look_ok (wt_lnE wt_L99) (hD 99 (Nat.le_of_ble_eq_true rfl)) hq8) (by omega) rfl rfl (Nat.le_of_ble_eq_true rfl) (Nat.zero_le _) wp_wk_sortByWeek_d67 (fun hbq8 => ?_)
      obtain ⟨q9, hq9, h⟩ := wt_bi h
      refine wt_callSv hE [.ref (wt_ad (wt_xw X) 99), .int s.1, .int q8.1] wt_lm_wk_141 wt_ya_ap_put (wp_ap_put_ok (wt_lnE wt_L99) (hD 99 (Nat.le_of_ble_eq_true rfl)) hq9) (by omega) rfl rfl (Nat.le_of_ble_eq_true rfl) (Nat.zero_le _) wp_wk_sortByWeek_d70 ?_
      refine wt_iinc hE (s.1 + (-1 : Int32)) [some (.ref (wt_ad (wt_xw X) 86)), some (.int x1), some (.int x2), some (.int (s.1 + (-1 : Int32)))] wp_wk_sortByWeek_d73 (by decide) rfl rfl rfl ?_
      refine wt_goto hE 27 wp_wk_sortByWeek_d76 rfl ?_
      exact hK27 ((s.1 + (-1 : Int32)), q9) h
noncomputable def wp_wk_sortByWeek_B2 (n : Nat) (K2 : Int32 × wt_St → Option (wt_St)) (s : Int32 × wt_St) : Option (wt_St) :=
  if (wt_gf s.2 39 8) ≤ s.1 then
    some s.2
  else
    (wp_ap_look n 46 s.1 s.2).bind fun q2 =>
    wt_it (wp_wk_sortByWeek_B27 n s.1 q2.1 K2) n (s.1, q2.2)
set_option maxRecDepth 100000 in
set_option maxHeartbeats 4000000 in
theorem wp_wk_sortByWeek_B2_ok  {X : wt_X} {n : Nat} {res : wt_St} (hE : wt_Ok X prog_11_method_13_code 4 "WornType$Weeks" 1 0) (hR : wt_Rt X none none res) (hD : ∀ i, i < 108 → wt_dom (wt_xw X) i)  {K2 : Int32 × wt_St → Option (wt_St)} (hK2 : ∀ s : Int32 × wt_St, K2 s = some res → wt_V X 0 s.2 2 [some (.ref (wt_ad (wt_xw X) 86)), some (.int s.1), none, none] []) {s : Int32 × wt_St} (h : wp_wk_sortByWeek_B2 n K2 s = some res) : wt_V X 0 s.2 2 [some (.ref (wt_ad (wt_xw X) 86)), some (.int s.1), none, none] [] := by
  unfold wp_wk_sortByWeek_B2 at h
  refine wt_iload_n hE wp_wk_sortByWeek_d2 rfl ?_
  refine wt_aload_n hE wp_wk_sortByWeek_d3 rfl ?_
  refine wt_getr hE (r := 39) wt_lf_wk_19 (hD 86 (Nat.le_of_ble_eq_true rfl)) wt_L86 rfl wp_wk_sortByWeek_d4 ?_
  refine wt_geti hE wt_lf_wk_67 (hD 39 (Nat.le_of_ble_eq_true rfl)) wt_L39 rfl wp_wk_sortByWeek_d7 ?_
  refine wt_icmp_ge hE 94 wp_wk_sortByWeek_d10 rfl (fun c1 => ?_) (fun c1 => ?_)
  · have h := wt_ip c1 h
    cases h
    exact wt_vret hE hR wp_wk_sortByWeek_d94
  · have h := wt_in c1 h
    refine wt_aload_n hE wp_wk_sortByWeek_d13 rfl ?_
    refine wt_getr hE (r := 39) wt_lf_wk_19 (hD 86 (Nat.le_of_ble_eq_true rfl)) wt_L86 rfl wp_wk_sortByWeek_d14 ?_
    refine wt_getr hE (r := 46) wt_lf_wk_74 (hD 39 (Nat.le_of_ble_eq_true rfl)) wt_L39 rfl wp_wk_sortByWeek_d17 ?_
    refine wt_iload_n hE wp_wk_sortByWeek_d20 rfl ?_
    obtain ⟨q2, hq2, h⟩ := wt_bi h
    refine wt_callSi hE [.ref (wt_ad (wt_xw X) 46), .int s.1] wt_lm_wk_70 wt_ya_ap_look (wp_ap_look_ok (wt_lnE wt_L46) (hD 46 (Nat.le_of_ble_eq_true rfl)) hq2) (by omega) rfl rfl (Nat.le_of_ble_eq_true rfl) (Nat.zero_le _) wp_wk_sortByWeek_d21 (fun hbq2 => ?_)
    refine wt_istore_n hE [some (.ref (wt_ad (wt_xw X) 86)), some (.int s.1), some (.int q2.1), none] wp_wk_sortByWeek_d24 (by decide) rfl ?_
    refine wt_iload_n hE wp_wk_sortByWeek_d25 rfl ?_
    refine wt_istore_n hE [some (.ref (wt_ad (wt_xw X) 86)), some (.int s.1), some (.int q2.1), some (.int s.1)] wp_wk_sortByWeek_d26 (by decide) rfl ?_
    exact wt_it_ind (fun z => wt_V X 0 z.2 27 [some (.ref (wt_ad (wt_xw X) 86)), some (.int s.1), some (.int q2.1), some (.int z.1)] []) (fun K hK z h => wp_wk_sortByWeek_B27_ok hE hR hD hK2 hK h) n (s.1, q2.2) h
noncomputable def wp_wk_sortByWeek (n : Nat) (σ : wt_St) : Option (wt_St) :=
  wt_it (wp_wk_sortByWeek_B2 n) n ((0 : Int32), σ)
set_option maxRecDepth 100000 in
set_option maxHeartbeats 4000000 in
theorem wp_wk_sortByWeek_ok {l : Launch} {w : wt_E} {n : Nat} (hD : ∀ i, i < 108 → wt_dom w i) {σ : wt_St} {q : wt_St} (h : wp_wk_sortByWeek n σ = some q) : wt_Ctr l w wt_y_wk_sortByWeek prog_11_method_13_code 4 none 1 [.ref (wt_ad w 86)] σ none q := by
  refine wt_ctr wt_pl_wk_sortByWeek rfl (Nat.le_of_ble_eq_true rfl) [some (.ref (wt_ad w 86)), none, none, none] rfl ?_
  intro X hXl hXw hE hR
  subst hXl
  subst hXw
  have hE : wt_Ok X prog_11_method_13_code 4 "WornType$Weeks" 1 0 := hE
  unfold wp_wk_sortByWeek at h
  refine wt_iconst hE (0 : Int32) wp_wk_sortByWeek_d0 wt_ci_0 ?_
  refine wt_istore_n hE [some (.ref (wt_ad (wt_xw X) 86)), some (.int (0 : Int32)), none, none] wp_wk_sortByWeek_d1 (by decide) rfl ?_
  exact wt_it_ind (fun z => wt_V X 0 z.2 2 [some (.ref (wt_ad (wt_xw X) 86)), some (.int z.1), none, none] []) (fun K hK z h => wp_wk_sortByWeek_B2_ok hE hR hD hK h) n ((0 : Int32), σ) h
def wb11m1_prog_11_method_10_code_r1 : List (List Nat) := [177] :: []
def wb11m1_prog_11_method_10_code_r0 : List (List Nat) := [42, 182, 0, 42, 42, 3, 181, 0, 45, 42, 3, 181, 0, 49, 42, 180, 0, 19, 180, 0, 55, 42, 180, 0, 32, 184, 0, 113] :: wb11m1_prog_11_method_10_code_r1
set_option maxRecDepth 100000 in
theorem wb11m1_prog_11_method_10_code_c0 : wt_cs prog_11_method_10_code 0 wb11m1_prog_11_method_10_code_r0 := wt_cs_of (by decide +kernel)
theorem wb11m1_prog_11_method_10_code_c1 : wt_cs prog_11_method_10_code 28 wb11m1_prog_11_method_10_code_r1 := wt_cs_tl (m := 28) wb11m1_prog_11_method_10_code_c0 rfl rfl
theorem wp_wk_startGreedy_d0 : decode prog_11_method_10_code 0 = .ok (.aload_n 0, 1) := wt_op42 wb11m1_prog_11_method_10_code_c0 0 rfl rfl
theorem wp_wk_startGreedy_d1 : decode prog_11_method_10_code 1 = .ok (.invokevirtual 42, 3) := wt_op182 wb11m1_prog_11_method_10_code_c0 1 rfl rfl rfl
theorem wp_wk_startGreedy_d4 : decode prog_11_method_10_code 4 = .ok (.aload_n 0, 1) := wt_op42 wb11m1_prog_11_method_10_code_c0 4 rfl rfl
theorem wp_wk_startGreedy_d5 : decode prog_11_method_10_code 5 = .ok (.iconst 0, 1) := wt_op3 wb11m1_prog_11_method_10_code_c0 5 rfl rfl
theorem wp_wk_startGreedy_d6 : decode prog_11_method_10_code 6 = .ok (.putfield 45, 3) := wt_op181 wb11m1_prog_11_method_10_code_c0 6 rfl rfl rfl
theorem wp_wk_startGreedy_d9 : decode prog_11_method_10_code 9 = .ok (.aload_n 0, 1) := wt_op42 wb11m1_prog_11_method_10_code_c0 9 rfl rfl
theorem wp_wk_startGreedy_d10 : decode prog_11_method_10_code 10 = .ok (.iconst 0, 1) := wt_op3 wb11m1_prog_11_method_10_code_c0 10 rfl rfl
theorem wp_wk_startGreedy_d11 : decode prog_11_method_10_code 11 = .ok (.putfield 49, 3) := wt_op181 wb11m1_prog_11_method_10_code_c0 11 rfl rfl rfl
theorem wp_wk_startGreedy_d14 : decode prog_11_method_10_code 14 = .ok (.aload_n 0, 1) := wt_op42 wb11m1_prog_11_method_10_code_c0 14 rfl rfl
theorem wp_wk_startGreedy_d15 : decode prog_11_method_10_code 15 = .ok (.getfield 19, 3) := wt_op180 wb11m1_prog_11_method_10_code_c0 15 rfl rfl rfl
theorem wp_wk_startGreedy_d18 : decode prog_11_method_10_code 18 = .ok (.getfield 55, 3) := wt_op180 wb11m1_prog_11_method_10_code_c0 18 rfl rfl rfl
theorem wp_wk_startGreedy_d21 : decode prog_11_method_10_code 21 = .ok (.aload_n 0, 1) := wt_op42 wb11m1_prog_11_method_10_code_c0 21 rfl rfl
theorem wp_wk_startGreedy_d22 : decode prog_11_method_10_code 22 = .ok (.getfield 32, 3) := wt_op180 wb11m1_prog_11_method_10_code_c0 22 rfl rfl rfl
theorem wp_wk_startGreedy_d25 : decode prog_11_method_10_code 25 = .ok (.invokestatic 113, 3) := wt_op184 wb11m1_prog_11_method_10_code_c0 25 rfl rfl rfl
theorem wp_wk_startGreedy_d28 : decode prog_11_method_10_code 28 = .ok (.return_, 1) := wt_op177 wb11m1_prog_11_method_10_code_c1 0 rfl rfl
noncomputable def wp_wk_startGreedy (n : Nat) (σ : wt_St) : Option (wt_St) :=
  (wp_wk_sortByWeek n σ).bind fun q1 =>
  (wp_ap_copyRow n 40 98 (wt_sf (wt_sf q1 86 8 (0 : Int32)) 86 9 (0 : Int32))).bind fun q2 =>
  some q2
set_option maxRecDepth 100000 in
set_option maxHeartbeats 4000000 in
theorem wp_wk_startGreedy_ok {l : Launch} {w : wt_E} {n : Nat} (hD : ∀ i, i < 108 → wt_dom w i) {σ : wt_St} {q : wt_St} (h : wp_wk_startGreedy n σ = some q) : wt_Ctr l w wt_y_wk_startGreedy prog_11_method_10_code 1 none 2 [.ref (wt_ad w 86)] σ none q := by
  refine wt_ctr wt_pl_wk_startGreedy rfl (Nat.le_of_ble_eq_true rfl) [some (.ref (wt_ad w 86))] rfl ?_
  intro X hXl hXw hE hR
  subst hXl
  subst hXw
  have hE : wt_Ok X prog_11_method_10_code 1 "WornType$Weeks" 2 0 := hE
  unfold wp_wk_startGreedy at h
  refine wt_aload_n hE wp_wk_startGreedy_d0 rfl ?_
  obtain ⟨q1, hq1, h⟩ := wt_bi h
  refine wt_callVv hE [] wt_lm_wk_42 wt_ya_wk_sortByWeek (wp_wk_sortByWeek_ok hD hq1) (by omega) (hD 86 (Nat.le_of_ble_eq_true rfl)) wt_L86 rfl rfl rfl (Nat.le_of_ble_eq_true rfl) (Nat.zero_le _) wp_wk_startGreedy_d1 ?_
  refine wt_aload_n hE wp_wk_startGreedy_d4 rfl ?_
  refine wt_iconst hE (0 : Int32) wp_wk_startGreedy_d5 wt_ci_0 ?_
  refine wt_puti hE wt_lf_wk_45 (hD 86 (Nat.le_of_ble_eq_true rfl)) wt_L86 rfl (fun q hq => by cases hq; rfl) wp_wk_startGreedy_d6 ?_
  refine wt_aload_n hE wp_wk_startGreedy_d9 rfl ?_
  refine wt_iconst hE (0 : Int32) wp_wk_startGreedy_d10 wt_ci_0 ?_
  refine wt_puti hE wt_lf_wk_49 (hD 86 (Nat.le_of_ble_eq_true rfl)) wt_L86 rfl (fun q hq => by cases hq; rfl) wp_wk_startGreedy_d11 ?_
  refine wt_aload_n hE wp_wk_startGreedy_d14 rfl ?_
  refine wt_getr hE (r := 39) wt_lf_wk_19 (hD 86 (Nat.le_of_ble_eq_true rfl)) wt_L86 rfl wp_wk_startGreedy_d15 ?_
  refine wt_getr hE (r := 40) wt_lf_wk_55 (hD 39 (Nat.le_of_ble_eq_true rfl)) wt_L39 rfl wp_wk_startGreedy_d18 ?_
  refine wt_aload_n hE wp_wk_startGreedy_d21 rfl ?_
  refine wt_getr hE (r := 98) wt_lf_wk_32 (hD 86 (Nat.le_of_ble_eq_true rfl)) wt_L86 rfl wp_wk_startGreedy_d22 ?_
  obtain ⟨q2, hq2, h⟩ := wt_bi h
  refine wt_callSv hE [.ref (wt_ad (wt_xw X) 40), .ref (wt_ad (wt_xw X) 98)] wt_lm_wk_113 wt_ya_ap_copyRow (wp_ap_copyRow_ok (wt_lnE wt_L40) (hD 40 (Nat.le_of_ble_eq_true rfl)) (wt_lnE wt_L98) (hD 98 (Nat.le_of_ble_eq_true rfl)) hq2) (by omega) rfl rfl (Nat.le_of_ble_eq_true rfl) (Nat.zero_le _) wp_wk_startGreedy_d25 ?_
  cases h
  exact wt_vret hE hR wp_wk_startGreedy_d28
def wb11m1_prog_1_method_43_code_r0 : List (List Nat) := [3, 61, 28, 42, 190, 162, 0, 13, 42, 28, 27, 79, 132, 2, 1, 167, 255, 243, 177] :: []
set_option maxRecDepth 100000 in
theorem wb11m1_prog_1_method_43_code_c0 : wt_cs prog_1_method_43_code 0 wb11m1_prog_1_method_43_code_r0 := wt_cs_of (by decide +kernel)
theorem wp_ap_fillRow_d0 : decode prog_1_method_43_code 0 = .ok (.iconst 0, 1) := wt_op3 wb11m1_prog_1_method_43_code_c0 0 rfl rfl
theorem wp_ap_fillRow_d1 : decode prog_1_method_43_code 1 = .ok (.istore_n 2, 1) := wt_op61 wb11m1_prog_1_method_43_code_c0 1 rfl rfl
theorem wp_ap_fillRow_d2 : decode prog_1_method_43_code 2 = .ok (.iload_n 2, 1) := wt_op28 wb11m1_prog_1_method_43_code_c0 2 rfl rfl
theorem wp_ap_fillRow_d3 : decode prog_1_method_43_code 3 = .ok (.aload_n 0, 1) := wt_op42 wb11m1_prog_1_method_43_code_c0 3 rfl rfl
theorem wp_ap_fillRow_d4 : decode prog_1_method_43_code 4 = .ok (.arraylength, 1) := wt_op190 wb11m1_prog_1_method_43_code_c0 4 rfl rfl
theorem wp_ap_fillRow_d5 : decode prog_1_method_43_code 5 = .ok (.if_icmp .ge 13, 3) := wt_op162 wb11m1_prog_1_method_43_code_c0 5 rfl rfl rfl
theorem wp_ap_fillRow_d8 : decode prog_1_method_43_code 8 = .ok (.aload_n 0, 1) := wt_op42 wb11m1_prog_1_method_43_code_c0 8 rfl rfl
theorem wp_ap_fillRow_d9 : decode prog_1_method_43_code 9 = .ok (.iload_n 2, 1) := wt_op28 wb11m1_prog_1_method_43_code_c0 9 rfl rfl
theorem wp_ap_fillRow_d10 : decode prog_1_method_43_code 10 = .ok (.iload_n 1, 1) := wt_op27 wb11m1_prog_1_method_43_code_c0 10 rfl rfl
theorem wp_ap_fillRow_d11 : decode prog_1_method_43_code 11 = .ok (.iastore, 1) := wt_op79 wb11m1_prog_1_method_43_code_c0 11 rfl rfl
theorem wp_ap_fillRow_d12 : decode prog_1_method_43_code 12 = .ok (.iinc 2 1, 3) := wt_op132 wb11m1_prog_1_method_43_code_c0 12 rfl rfl rfl
theorem wp_ap_fillRow_d15 : decode prog_1_method_43_code 15 = .ok (.goto (-13), 3) := wt_op167 wb11m1_prog_1_method_43_code_c0 15 rfl rfl rfl
theorem wp_ap_fillRow_d18 : decode prog_1_method_43_code 18 = .ok (.return_, 1) := wt_op177 wb11m1_prog_1_method_43_code_c0 18 rfl rfl
noncomputable def wp_ap_fillRow_B2 (n : Nat) (a0 : Nat) (x1 : Int32) (K2 : Int32 × wt_St → Option (wt_St)) (s : Int32 × wt_St) : Option (wt_St) :=
  if (nI (wt_ln a0)) ≤ s.1 then
    some s.2
  else
    if s.1 < 0 ∨ (wt_ln a0) ≤ Int32.toNatClampNeg s.1 then none else
    K2 ((s.1 + (1 : Int32)), (wt_sa s.2 a0 (Int32.toNatClampNeg s.1) x1))
set_option maxRecDepth 100000 in
set_option maxHeartbeats 4000000 in
theorem wp_ap_fillRow_B2_ok  {a0 : Nat} {x1 : Int32} {X : wt_X} {n : Nat} {res : wt_St} (hE : wt_Ok X prog_1_method_43_code 3 "WornType" 0 0) (hR : wt_Rt X none none res) (hA_a0 : wt_LAY[a0]? = some (0, wt_ln a0, [])) (hd_a0 : wt_dom (wt_xw X) a0) {K2 : Int32 × wt_St → Option (wt_St)} (hK2 : ∀ s : Int32 × wt_St, K2 s = some res → wt_V X 0 s.2 2 [some (.ref (wt_ad (wt_xw X) a0)), some (.int x1), some (.int s.1)] []) {s : Int32 × wt_St} (h : wp_ap_fillRow_B2 n a0 x1 K2 s = some res) : wt_V X 0 s.2 2 [some (.ref (wt_ad (wt_xw X) a0)), some (.int x1), some (.int s.1)] [] := by
  unfold wp_ap_fillRow_B2 at h
  refine wt_iload_n hE wp_ap_fillRow_d2 rfl ?_
  refine wt_aload_n hE wp_ap_fillRow_d3 rfl ?_
  refine wt_alen hE (nI (wt_ln a0)) hd_a0 hA_a0 rfl wp_ap_fillRow_d4 ?_
  refine wt_icmp_ge hE 18 wp_ap_fillRow_d5 rfl (fun c1 => ?_) (fun c1 => ?_)
  · have h := wt_ip c1 h
    cases h
    exact wt_vret hE hR wp_ap_fillRow_d18
  · have h := wt_in c1 h
    refine wt_aload_n hE wp_ap_fillRow_d8 rfl ?_
    refine wt_iload_n hE wp_ap_fillRow_d9 rfl ?_
    refine wt_iload_n hE wp_ap_fillRow_d10 rfl ?_
    obtain ⟨g2, h⟩ := wt_gd h
    refine wt_iast hE hd_a0 hA_a0 g2 wp_ap_fillRow_d11 ?_
    refine wt_iinc hE (s.1 + (1 : Int32)) [some (.ref (wt_ad (wt_xw X) a0)), some (.int x1), some (.int (s.1 + (1 : Int32)))] wp_ap_fillRow_d12 (by decide) rfl rfl rfl ?_
    refine wt_goto hE 2 wp_ap_fillRow_d15 rfl ?_
    exact hK2 ((s.1 + (1 : Int32)), (wt_sa s.2 a0 (Int32.toNatClampNeg s.1) x1)) h
noncomputable def wp_ap_fillRow (n : Nat) (a0 : Nat) (x1 : Int32) (σ : wt_St) : Option (wt_St) :=
  wt_it (wp_ap_fillRow_B2 n a0 x1) n ((0 : Int32), σ)
set_option maxRecDepth 100000 in
set_option maxHeartbeats 4000000 in
theorem wp_ap_fillRow_ok {l : Launch} {w : wt_E} {n : Nat} {a0 : Nat} {x1 : Int32} (hA_a0 : wt_LAY[a0]? = some (0, wt_ln a0, [])) (hd_a0 : wt_dom w a0) {σ : wt_St} {q : wt_St} (h : wp_ap_fillRow n a0 x1 σ = some q) : wt_Ctr l w wt_y_ap_fillRow prog_1_method_43_code 3 none 0 [.ref (wt_ad w a0), .int x1] σ none q := by
  refine wt_ctr wt_pl_ap_fillRow rfl (Nat.le_of_ble_eq_true rfl) [some (.ref (wt_ad w a0)), some (.int x1), none] rfl ?_
  intro X hXl hXw hE hR
  subst hXl
  subst hXw
  have hE : wt_Ok X prog_1_method_43_code 3 "WornType" 0 0 := hE
  unfold wp_ap_fillRow at h
  refine wt_iconst hE (0 : Int32) wp_ap_fillRow_d0 wt_ci_0 ?_
  refine wt_istore_n hE [some (.ref (wt_ad (wt_xw X) a0)), some (.int x1), some (.int (0 : Int32))] wp_ap_fillRow_d1 (by decide) rfl ?_
  exact wt_it_ind (fun z => wt_V X 0 z.2 2 [some (.ref (wt_ad (wt_xw X) a0)), some (.int x1), some (.int z.1)] []) (fun K hK z h => wp_ap_fillRow_B2_ok hE hR hA_a0 hd_a0 hK h) n ((0 : Int32), σ) h
def wb11m1_prog_9_method_4_code_r0 : List (List Nat) := [42, 180, 0, 9, 27, 16, 9, 104, 28, 96, 184, 0, 41, 172] :: []
set_option maxRecDepth 100000 in
theorem wb11m1_prog_9_method_4_code_c0 : wt_cs prog_9_method_4_code 0 wb11m1_prog_9_method_4_code_r0 := wt_cs_of (by decide +kernel)
theorem wp_tg_letterAt_d0 : decode prog_9_method_4_code 0 = .ok (.aload_n 0, 1) := wt_op42 wb11m1_prog_9_method_4_code_c0 0 rfl rfl
theorem wp_tg_letterAt_d1 : decode prog_9_method_4_code 1 = .ok (.getfield 9, 3) := wt_op180 wb11m1_prog_9_method_4_code_c0 1 rfl rfl rfl
theorem wp_tg_letterAt_d4 : decode prog_9_method_4_code 4 = .ok (.iload_n 1, 1) := wt_op27 wb11m1_prog_9_method_4_code_c0 4 rfl rfl
theorem wp_tg_letterAt_d5 : decode prog_9_method_4_code 5 = .ok (.bipush 9, 2) := wt_op16 wb11m1_prog_9_method_4_code_c0 5 rfl rfl rfl
theorem wp_tg_letterAt_d7 : decode prog_9_method_4_code 7 = .ok (.imul, 1) := wt_op104 wb11m1_prog_9_method_4_code_c0 7 rfl rfl
theorem wp_tg_letterAt_d8 : decode prog_9_method_4_code 8 = .ok (.iload_n 2, 1) := wt_op28 wb11m1_prog_9_method_4_code_c0 8 rfl rfl
theorem wp_tg_letterAt_d9 : decode prog_9_method_4_code 9 = .ok (.iadd, 1) := wt_op96 wb11m1_prog_9_method_4_code_c0 9 rfl rfl
theorem wp_tg_letterAt_d10 : decode prog_9_method_4_code 10 = .ok (.invokestatic 41, 3) := wt_op184 wb11m1_prog_9_method_4_code_c0 10 rfl rfl rfl
theorem wp_tg_letterAt_d13 : decode prog_9_method_4_code 13 = .ok (.ireturn, 1) := wt_op172 wb11m1_prog_9_method_4_code_c0 13 rfl rfl
noncomputable def wp_tg_letterAt (n : Nat) (t0 : Nat) (x1 : Int32) (x2 : Int32) (σ : wt_St) : Option (Int32 × wt_St) :=
  (wp_ap_look n (t0 + 1) ((x1 * (9 : Int32)) + x2) σ).bind fun q1 =>
  some (q1.1, q1.2)
set_option maxRecDepth 100000 in
set_option maxHeartbeats 4000000 in
theorem wp_tg_letterAt_ok {l : Launch} {w : wt_E} {n : Nat} {t0 : Nat} {x1 : Int32} {x2 : Int32} (hI_t0 : wt_isTongue t0) (hT_t0 : ∀ j, j < 7 → wt_dom w (t0 + j)) {σ : wt_St} {q : Int32 × wt_St} (h : wp_tg_letterAt n t0 x1 x2 σ = some q) : wt_Ctr l w wt_y_tg_letterAt prog_9_method_4_code 3 (some .int) 1 [.ref (wt_ad w t0), .int x1, .int x2] σ (some q.1) q.2 := by
  refine wt_ctr wt_pl_tg_letterAt rfl (Nat.le_of_ble_eq_true rfl) [some (.ref (wt_ad w t0)), some (.int x1), some (.int x2)] rfl ?_
  intro X hXl hXw hE hR
  subst hXl
  subst hXw
  have hE : wt_Ok X prog_9_method_4_code 3 "WornType$Tongue" 1 0 := hE
  unfold wp_tg_letterAt at h
  refine wt_aload_n hE wp_tg_letterAt_d0 rfl ?_
  refine wt_getr hE (r := (t0 + 1)) wt_lf_tg_9 (hT_t0 0 (Nat.le_of_ble_eq_true rfl)) (hI_t0.1) rfl wp_tg_letterAt_d1 ?_
  refine wt_iload_n hE wp_tg_letterAt_d4 rfl ?_
  refine wt_bipush hE (9 : Int32) wp_tg_letterAt_d5 wt_cb_9 ?_
  refine wt_imul hE wp_tg_letterAt_d7 ?_
  refine wt_iload_n hE wp_tg_letterAt_d8 rfl ?_
  refine wt_iadd hE wp_tg_letterAt_d9 ?_
  obtain ⟨q1, hq1, h⟩ := wt_bi h
  refine wt_callSi hE [.ref (wt_ad (wt_xw X) ((t0 + 1))), .int ((x1 * (9 : Int32)) + x2)] wt_lm_tg_41 wt_ya_ap_look (wp_ap_look_ok (wt_lnE (wt_isTongue_L1 hI_t0)) (hT_t0 1 (Nat.le_of_ble_eq_true rfl)) hq1) (by omega) rfl rfl (Nat.le_of_ble_eq_true rfl) (Nat.zero_le _) wp_tg_letterAt_d10 (fun hbq1 => ?_)
  cases h
  exact wt_iret hE hR wp_tg_letterAt_d13
def wb11m1_prog_9_method_8_code_r1 : List (List Nat) := [21, 5, 44, 21, 5, 184, 0, 41, 4, 96, 184, 0, 57, 132, 4, 1, 167, 255, 224, 177] :: []
def wb11m1_prog_9_method_8_code_r0 : List (List Nat) := [42, 180, 0, 15, 27, 184, 0, 41, 62, 3, 54, 4, 21, 4, 29, 162, 0, 32, 42, 27, 21, 4, 182, 0, 53, 54, 5, 44] :: wb11m1_prog_9_method_8_code_r1
set_option maxRecDepth 100000 in
theorem wb11m1_prog_9_method_8_code_c0 : wt_cs prog_9_method_8_code 0 wb11m1_prog_9_method_8_code_r0 := wt_cs_of (by decide +kernel)
theorem wb11m1_prog_9_method_8_code_c1 : wt_cs prog_9_method_8_code 28 wb11m1_prog_9_method_8_code_r1 := wt_cs_tl (m := 28) wb11m1_prog_9_method_8_code_c0 rfl rfl
theorem wp_tg_countInto_d0 : decode prog_9_method_8_code 0 = .ok (.aload_n 0, 1) := wt_op42 wb11m1_prog_9_method_8_code_c0 0 rfl rfl
theorem wp_tg_countInto_d1 : decode prog_9_method_8_code 1 = .ok (.getfield 15, 3) := wt_op180 wb11m1_prog_9_method_8_code_c0 1 rfl rfl rfl
theorem wp_tg_countInto_d4 : decode prog_9_method_8_code 4 = .ok (.iload_n 1, 1) := wt_op27 wb11m1_prog_9_method_8_code_c0 4 rfl rfl
theorem wp_tg_countInto_d5 : decode prog_9_method_8_code 5 = .ok (.invokestatic 41, 3) := wt_op184 wb11m1_prog_9_method_8_code_c0 5 rfl rfl rfl
theorem wp_tg_countInto_d8 : decode prog_9_method_8_code 8 = .ok (.istore_n 3, 1) := wt_op62 wb11m1_prog_9_method_8_code_c0 8 rfl rfl
theorem wp_tg_countInto_d9 : decode prog_9_method_8_code 9 = .ok (.iconst 0, 1) := wt_op3 wb11m1_prog_9_method_8_code_c0 9 rfl rfl
theorem wp_tg_countInto_d10 : decode prog_9_method_8_code 10 = .ok (.istore 4, 2) := wt_op54 wb11m1_prog_9_method_8_code_c0 10 rfl rfl
theorem wp_tg_countInto_d12 : decode prog_9_method_8_code 12 = .ok (.iload 4, 2) := wt_op21 wb11m1_prog_9_method_8_code_c0 12 rfl rfl
theorem wp_tg_countInto_d14 : decode prog_9_method_8_code 14 = .ok (.iload_n 3, 1) := wt_op29 wb11m1_prog_9_method_8_code_c0 14 rfl rfl
theorem wp_tg_countInto_d15 : decode prog_9_method_8_code 15 = .ok (.if_icmp .ge 32, 3) := wt_op162 wb11m1_prog_9_method_8_code_c0 15 rfl rfl rfl
theorem wp_tg_countInto_d18 : decode prog_9_method_8_code 18 = .ok (.aload_n 0, 1) := wt_op42 wb11m1_prog_9_method_8_code_c0 18 rfl rfl
theorem wp_tg_countInto_d19 : decode prog_9_method_8_code 19 = .ok (.iload_n 1, 1) := wt_op27 wb11m1_prog_9_method_8_code_c0 19 rfl rfl
theorem wp_tg_countInto_d20 : decode prog_9_method_8_code 20 = .ok (.iload 4, 2) := wt_op21 wb11m1_prog_9_method_8_code_c0 20 rfl rfl
theorem wp_tg_countInto_d22 : decode prog_9_method_8_code 22 = .ok (.invokevirtual 53, 3) := wt_op182 wb11m1_prog_9_method_8_code_c0 22 rfl rfl rfl
theorem wp_tg_countInto_d25 : decode prog_9_method_8_code 25 = .ok (.istore 5, 2) := wt_op54 wb11m1_prog_9_method_8_code_c0 25 rfl rfl
theorem wp_tg_countInto_d27 : decode prog_9_method_8_code 27 = .ok (.aload_n 2, 1) := wt_op44 wb11m1_prog_9_method_8_code_c0 27 rfl rfl
theorem wp_tg_countInto_d28 : decode prog_9_method_8_code 28 = .ok (.iload 5, 2) := wt_op21 wb11m1_prog_9_method_8_code_c1 0 rfl rfl
theorem wp_tg_countInto_d30 : decode prog_9_method_8_code 30 = .ok (.aload_n 2, 1) := wt_op44 wb11m1_prog_9_method_8_code_c1 2 rfl rfl
theorem wp_tg_countInto_d31 : decode prog_9_method_8_code 31 = .ok (.iload 5, 2) := wt_op21 wb11m1_prog_9_method_8_code_c1 3 rfl rfl
theorem wp_tg_countInto_d33 : decode prog_9_method_8_code 33 = .ok (.invokestatic 41, 3) := wt_op184 wb11m1_prog_9_method_8_code_c1 5 rfl rfl rfl
theorem wp_tg_countInto_d36 : decode prog_9_method_8_code 36 = .ok (.iconst 1, 1) := wt_op4 wb11m1_prog_9_method_8_code_c1 8 rfl rfl
theorem wp_tg_countInto_d37 : decode prog_9_method_8_code 37 = .ok (.iadd, 1) := wt_op96 wb11m1_prog_9_method_8_code_c1 9 rfl rfl
theorem wp_tg_countInto_d38 : decode prog_9_method_8_code 38 = .ok (.invokestatic 57, 3) := wt_op184 wb11m1_prog_9_method_8_code_c1 10 rfl rfl rfl
theorem wp_tg_countInto_d41 : decode prog_9_method_8_code 41 = .ok (.iinc 4 1, 3) := wt_op132 wb11m1_prog_9_method_8_code_c1 13 rfl rfl rfl
theorem wp_tg_countInto_d44 : decode prog_9_method_8_code 44 = .ok (.goto (-32), 3) := wt_op167 wb11m1_prog_9_method_8_code_c1 16 rfl rfl rfl
theorem wp_tg_countInto_d47 : decode prog_9_method_8_code 47 = .ok (.return_, 1) := wt_op177 wb11m1_prog_9_method_8_code_c1 19 rfl rfl
noncomputable def wp_tg_countInto_B12 (n : Nat) (t0 : Nat) (a2 : Nat) (x1 : Int32) (x3 : Int32) (K12 : Int32 × wt_St → Option (wt_St)) (s : Int32 × wt_St) : Option (wt_St) :=
  if x3 ≤ s.1 then
    some s.2
  else
    (wp_tg_letterAt n t0 x1 s.1 s.2).bind fun q3 =>
    (wp_ap_look n a2 q3.1 q3.2).bind fun q4 =>
    (wp_ap_put n a2 q3.1 (q4.1 + (1 : Int32)) q4.2).bind fun q5 =>
    K12 ((s.1 + (1 : Int32)), q5)
set_option maxRecDepth 100000 in
set_option maxHeartbeats 4000000 in
theorem wp_tg_countInto_B12_ok  {t0 : Nat} {a2 : Nat} {x1 : Int32} {x3 : Int32} {X : wt_X} {n : Nat} {res : wt_St} (hE : wt_Ok X prog_9_method_8_code 6 "WornType$Tongue" 2 0) (hR : wt_Rt X none none res) (hI_t0 : wt_isTongue t0) (hT_t0 : ∀ j, j < 7 → wt_dom (wt_xw X) (t0 + j)) (hA_a2 : wt_LAY[a2]? = some (0, wt_ln a2, [])) (hd_a2 : wt_dom (wt_xw X) a2) {K12 : Int32 × wt_St → Option (wt_St)} (hK12 : ∀ s : Int32 × wt_St, K12 s = some res → wt_V X 0 s.2 12 [some (.ref (wt_ad (wt_xw X) t0)), some (.int x1), some (.ref (wt_ad (wt_xw X) a2)), some (.int x3), some (.int s.1), none] []) {s : Int32 × wt_St} (h : wp_tg_countInto_B12 n t0 a2 x1 x3 K12 s = some res) : wt_V X 0 s.2 12 [some (.ref (wt_ad (wt_xw X) t0)), some (.int x1), some (.ref (wt_ad (wt_xw X) a2)), some (.int x3), some (.int s.1), none] [] := by
  unfold wp_tg_countInto_B12 at h
  refine wt_iload hE wp_tg_countInto_d12 rfl ?_
  refine wt_iload_n hE wp_tg_countInto_d14 rfl ?_
  refine wt_icmp_ge hE 47 wp_tg_countInto_d15 rfl (fun c2 => ?_) (fun c2 => ?_)
  · have h := wt_ip c2 h
    cases h
    exact wt_vret hE hR wp_tg_countInto_d47
  · have h := wt_in c2 h
    refine wt_aload_n hE wp_tg_countInto_d18 rfl ?_
    refine wt_iload_n hE wp_tg_countInto_d19 rfl ?_
    refine wt_iload hE wp_tg_countInto_d20 rfl ?_
    obtain ⟨q3, hq3, h⟩ := wt_bi h
    refine wt_callVi hE [.int x1, .int s.1] wt_lm_tg_53 wt_ya_tg_letterAt (wp_tg_letterAt_ok hI_t0 hT_t0 hq3) (by omega) (hT_t0 0 (Nat.le_of_ble_eq_true rfl)) (hI_t0.1) rfl rfl rfl (Nat.le_of_ble_eq_true rfl) (Nat.zero_le _) wp_tg_countInto_d22 (fun hbq3 => ?_)
    refine wt_istore hE [some (.ref (wt_ad (wt_xw X) t0)), some (.int x1), some (.ref (wt_ad (wt_xw X) a2)), some (.int x3), some (.int s.1), some (.int q3.1)] wp_tg_countInto_d25 (Nat.le_of_ble_eq_true rfl) rfl ?_
    refine wt_aload_n hE wp_tg_countInto_d27 rfl ?_
    refine wt_iload hE wp_tg_countInto_d28 rfl ?_
    refine wt_aload_n hE wp_tg_countInto_d30 rfl ?_
    refine wt_iload hE wp_tg_countInto_d31 rfl ?_
    obtain ⟨q4, hq4, h⟩ := wt_bi h
    refine wt_callSi hE [.ref (wt_ad (wt_xw X) a2), .int q3.1] wt_lm_tg_41 wt_ya_ap_look (wp_ap_look_ok (wt_lnE hA_a2) hd_a2 hq4) (by omega) rfl rfl (Nat.le_of_ble_eq_true rfl) (Nat.zero_le _) wp_tg_countInto_d33 (fun hbq4 => ?_)
    refine wt_iconst hE (1 : Int32) wp_tg_countInto_d36 wt_ci_1 ?_
    refine wt_iadd hE wp_tg_countInto_d37 ?_
    obtain ⟨q5, hq5, h⟩ := wt_bi h
    refine wt_callSv hE [.ref (wt_ad (wt_xw X) a2), .int q3.1, .int (q4.1 + (1 : Int32))] wt_lm_tg_57 wt_ya_ap_put (wp_ap_put_ok (wt_lnE hA_a2) hd_a2 hq5) (by omega) rfl rfl (Nat.le_of_ble_eq_true rfl) (Nat.zero_le _) wp_tg_countInto_d38 ?_
    refine wt_iinc hE (s.1 + (1 : Int32)) [some (.ref (wt_ad (wt_xw X) t0)), some (.int x1), some (.ref (wt_ad (wt_xw X) a2)), some (.int x3), some (.int (s.1 + (1 : Int32))), some (.int q3.1)] wp_tg_countInto_d41 (by decide) rfl rfl rfl ?_
    refine wt_goto hE 12 wp_tg_countInto_d44 rfl ?_
    refine wt_wk [true, true, true, true, true, false] rfl ?_
    exact hK12 ((s.1 + (1 : Int32)), q5) h
noncomputable def wp_tg_countInto (n : Nat) (t0 : Nat) (a2 : Nat) (x1 : Int32) (σ : wt_St) : Option (wt_St) :=
  (wp_ap_look n (t0 + 2) x1 σ).bind fun q1 =>
  wt_it (wp_tg_countInto_B12 n t0 a2 x1 q1.1) n ((0 : Int32), q1.2)
set_option maxRecDepth 100000 in
set_option maxHeartbeats 4000000 in
theorem wp_tg_countInto_ok {l : Launch} {w : wt_E} {n : Nat} {t0 : Nat} {a2 : Nat} {x1 : Int32} (hI_t0 : wt_isTongue t0) (hT_t0 : ∀ j, j < 7 → wt_dom w (t0 + j)) (hA_a2 : wt_LAY[a2]? = some (0, wt_ln a2, [])) (hd_a2 : wt_dom w a2) {σ : wt_St} {q : wt_St} (h : wp_tg_countInto n t0 a2 x1 σ = some q) : wt_Ctr l w wt_y_tg_countInto prog_9_method_8_code 6 none 2 [.ref (wt_ad w t0), .int x1, .ref (wt_ad w a2)] σ none q := by
  refine wt_ctr wt_pl_tg_countInto rfl (Nat.le_of_ble_eq_true rfl) [some (.ref (wt_ad w t0)), some (.int x1), some (.ref (wt_ad w a2)), none, none, none] rfl ?_
  intro X hXl hXw hE hR
  subst hXl
  subst hXw
  have hE : wt_Ok X prog_9_method_8_code 6 "WornType$Tongue" 2 0 := hE
  unfold wp_tg_countInto at h
  refine wt_aload_n hE wp_tg_countInto_d0 rfl ?_
  refine wt_getr hE (r := (t0 + 2)) wt_lf_tg_15 (hT_t0 0 (Nat.le_of_ble_eq_true rfl)) (hI_t0.1) rfl wp_tg_countInto_d1 ?_
  refine wt_iload_n hE wp_tg_countInto_d4 rfl ?_
  obtain ⟨q1, hq1, h⟩ := wt_bi h
  refine wt_callSi hE [.ref (wt_ad (wt_xw X) ((t0 + 2))), .int x1] wt_lm_tg_41 wt_ya_ap_look (wp_ap_look_ok (wt_lnE (wt_isTongue_L2 hI_t0)) (hT_t0 2 (Nat.le_of_ble_eq_true rfl)) hq1) (by omega) rfl rfl (Nat.le_of_ble_eq_true rfl) (Nat.zero_le _) wp_tg_countInto_d5 (fun hbq1 => ?_)
  refine wt_istore_n hE [some (.ref (wt_ad (wt_xw X) t0)), some (.int x1), some (.ref (wt_ad (wt_xw X) a2)), some (.int q1.1), none, none] wp_tg_countInto_d8 (by decide) rfl ?_
  refine wt_iconst hE (0 : Int32) wp_tg_countInto_d9 wt_ci_0 ?_
  refine wt_istore hE [some (.ref (wt_ad (wt_xw X) t0)), some (.int x1), some (.ref (wt_ad (wt_xw X) a2)), some (.int q1.1), some (.int (0 : Int32)), none] wp_tg_countInto_d10 (Nat.le_of_ble_eq_true rfl) rfl ?_
  exact wt_it_ind (fun z => wt_V X 0 z.2 12 [some (.ref (wt_ad (wt_xw X) t0)), some (.int x1), some (.ref (wt_ad (wt_xw X) a2)), some (.int q1.1), some (.int z.1), none] []) (fun K hK z h => wp_tg_countInto_B12_ok hE hR hI_t0 hT_t0 hA_a2 hd_a2 hK h) n ((0 : Int32), q1.2) h
def wb11m1_prog_9_method_7_code_r0 : List (List Nat) := [44, 3, 184, 0, 45, 42, 27, 44, 182, 0, 49, 177] :: []
set_option maxRecDepth 100000 in
theorem wb11m1_prog_9_method_7_code_c0 : wt_cs prog_9_method_7_code 0 wb11m1_prog_9_method_7_code_r0 := wt_cs_of (by decide +kernel)
theorem wp_tg_spell_d0 : decode prog_9_method_7_code 0 = .ok (.aload_n 2, 1) := wt_op44 wb11m1_prog_9_method_7_code_c0 0 rfl rfl
theorem wp_tg_spell_d1 : decode prog_9_method_7_code 1 = .ok (.iconst 0, 1) := wt_op3 wb11m1_prog_9_method_7_code_c0 1 rfl rfl
theorem wp_tg_spell_d2 : decode prog_9_method_7_code 2 = .ok (.invokestatic 45, 3) := wt_op184 wb11m1_prog_9_method_7_code_c0 2 rfl rfl rfl
theorem wp_tg_spell_d5 : decode prog_9_method_7_code 5 = .ok (.aload_n 0, 1) := wt_op42 wb11m1_prog_9_method_7_code_c0 5 rfl rfl
theorem wp_tg_spell_d6 : decode prog_9_method_7_code 6 = .ok (.iload_n 1, 1) := wt_op27 wb11m1_prog_9_method_7_code_c0 6 rfl rfl
theorem wp_tg_spell_d7 : decode prog_9_method_7_code 7 = .ok (.aload_n 2, 1) := wt_op44 wb11m1_prog_9_method_7_code_c0 7 rfl rfl
theorem wp_tg_spell_d8 : decode prog_9_method_7_code 8 = .ok (.invokevirtual 49, 3) := wt_op182 wb11m1_prog_9_method_7_code_c0 8 rfl rfl rfl
theorem wp_tg_spell_d11 : decode prog_9_method_7_code 11 = .ok (.return_, 1) := wt_op177 wb11m1_prog_9_method_7_code_c0 11 rfl rfl
noncomputable def wp_tg_spell (n : Nat) (t0 : Nat) (a2 : Nat) (x1 : Int32) (σ : wt_St) : Option (wt_St) :=
  (wp_ap_fillRow n a2 (0 : Int32) σ).bind fun q1 =>
  (wp_tg_countInto n t0 a2 x1 q1).bind fun q2 =>
  some q2
set_option maxRecDepth 100000 in
set_option maxHeartbeats 4000000 in
theorem wp_tg_spell_ok {l : Launch} {w : wt_E} {n : Nat} {t0 : Nat} {a2 : Nat} {x1 : Int32} (hI_t0 : wt_isTongue t0) (hT_t0 : ∀ j, j < 7 → wt_dom w (t0 + j)) (hA_a2 : wt_LAY[a2]? = some (0, wt_ln a2, [])) (hd_a2 : wt_dom w a2) {σ : wt_St} {q : wt_St} (h : wp_tg_spell n t0 a2 x1 σ = some q) : wt_Ctr l w wt_y_tg_spell prog_9_method_7_code 3 none 3 [.ref (wt_ad w t0), .int x1, .ref (wt_ad w a2)] σ none q := by
  refine wt_ctr wt_pl_tg_spell rfl (Nat.le_of_ble_eq_true rfl) [some (.ref (wt_ad w t0)), some (.int x1), some (.ref (wt_ad w a2))] rfl ?_
  intro X hXl hXw hE hR
  subst hXl
  subst hXw
  have hE : wt_Ok X prog_9_method_7_code 3 "WornType$Tongue" 3 0 := hE
  unfold wp_tg_spell at h
  refine wt_aload_n hE wp_tg_spell_d0 rfl ?_
  refine wt_iconst hE (0 : Int32) wp_tg_spell_d1 wt_ci_0 ?_
  obtain ⟨q1, hq1, h⟩ := wt_bi h
  refine wt_callSv hE [.ref (wt_ad (wt_xw X) a2), .int (0 : Int32)] wt_lm_tg_45 wt_ya_ap_fillRow (wp_ap_fillRow_ok (wt_lnE hA_a2) hd_a2 hq1) (by omega) rfl rfl (Nat.le_of_ble_eq_true rfl) (Nat.zero_le _) wp_tg_spell_d2 ?_
  refine wt_aload_n hE wp_tg_spell_d5 rfl ?_
  refine wt_iload_n hE wp_tg_spell_d6 rfl ?_
  refine wt_aload_n hE wp_tg_spell_d7 rfl ?_
  obtain ⟨q2, hq2, h⟩ := wt_bi h
  refine wt_callVv hE [.int x1, .ref (wt_ad (wt_xw X) a2)] wt_lm_tg_49 wt_ya_tg_countInto (wp_tg_countInto_ok hI_t0 hT_t0 (wt_lnE hA_a2) hd_a2 hq2) (by omega) (hT_t0 0 (Nat.le_of_ble_eq_true rfl)) (hI_t0.1) rfl rfl rfl (Nat.le_of_ble_eq_true rfl) (Nat.zero_le _) wp_tg_spell_d8 ?_
  cases h
  exact wt_vret hE hR wp_tg_spell_d11
def wb11m1_prog_11_method_4_code_r0 : List (List Nat) := [42, 180, 0, 9, 27, 42, 180, 0, 39, 182, 0, 81, 42, 180, 0, 23, 42, 180, 0, 39, 42, 180, 0, 32, 182, 0, 87, 172] :: []
set_option maxRecDepth 100000 in
theorem wb11m1_prog_11_method_4_code_c0 : wt_cs prog_11_method_4_code 0 wb11m1_prog_11_method_4_code_r0 := wt_cs_of (by decide +kernel)
theorem wp_wk_stillSaid_d0 : decode prog_11_method_4_code 0 = .ok (.aload_n 0, 1) := wt_op42 wb11m1_prog_11_method_4_code_c0 0 rfl rfl
theorem wp_wk_stillSaid_d1 : decode prog_11_method_4_code 1 = .ok (.getfield 9, 3) := wt_op180 wb11m1_prog_11_method_4_code_c0 1 rfl rfl rfl
theorem wp_wk_stillSaid_d4 : decode prog_11_method_4_code 4 = .ok (.iload_n 1, 1) := wt_op27 wb11m1_prog_11_method_4_code_c0 4 rfl rfl
theorem wp_wk_stillSaid_d5 : decode prog_11_method_4_code 5 = .ok (.aload_n 0, 1) := wt_op42 wb11m1_prog_11_method_4_code_c0 5 rfl rfl
theorem wp_wk_stillSaid_d6 : decode prog_11_method_4_code 6 = .ok (.getfield 39, 3) := wt_op180 wb11m1_prog_11_method_4_code_c0 6 rfl rfl rfl
theorem wp_wk_stillSaid_d9 : decode prog_11_method_4_code 9 = .ok (.invokevirtual 81, 3) := wt_op182 wb11m1_prog_11_method_4_code_c0 9 rfl rfl rfl
theorem wp_wk_stillSaid_d12 : decode prog_11_method_4_code 12 = .ok (.aload_n 0, 1) := wt_op42 wb11m1_prog_11_method_4_code_c0 12 rfl rfl
theorem wp_wk_stillSaid_d13 : decode prog_11_method_4_code 13 = .ok (.getfield 23, 3) := wt_op180 wb11m1_prog_11_method_4_code_c0 13 rfl rfl rfl
theorem wp_wk_stillSaid_d16 : decode prog_11_method_4_code 16 = .ok (.aload_n 0, 1) := wt_op42 wb11m1_prog_11_method_4_code_c0 16 rfl rfl
theorem wp_wk_stillSaid_d17 : decode prog_11_method_4_code 17 = .ok (.getfield 39, 3) := wt_op180 wb11m1_prog_11_method_4_code_c0 17 rfl rfl rfl
theorem wp_wk_stillSaid_d20 : decode prog_11_method_4_code 20 = .ok (.aload_n 0, 1) := wt_op42 wb11m1_prog_11_method_4_code_c0 20 rfl rfl
theorem wp_wk_stillSaid_d21 : decode prog_11_method_4_code 21 = .ok (.getfield 32, 3) := wt_op180 wb11m1_prog_11_method_4_code_c0 21 rfl rfl rfl
theorem wp_wk_stillSaid_d24 : decode prog_11_method_4_code 24 = .ok (.invokevirtual 87, 3) := wt_op182 wb11m1_prog_11_method_4_code_c0 24 rfl rfl rfl
theorem wp_wk_stillSaid_d27 : decode prog_11_method_4_code 27 = .ok (.ireturn, 1) := wt_op172 wb11m1_prog_11_method_4_code_c0 27 rfl rfl
noncomputable def wp_wk_stillSaid (n : Nat) (x1 : Int32) (σ : wt_St) : Option (Int32 × wt_St) :=
  (wp_tg_spell n 20 100 x1 σ).bind fun q1 =>
  (wp_sk_often n 100 98 q1).bind fun q2 =>
  some (q2.1, q2.2)
set_option maxRecDepth 100000 in
set_option maxHeartbeats 4000000 in
theorem wp_wk_stillSaid_ok {l : Launch} {w : wt_E} {n : Nat} {x1 : Int32} (hD : ∀ i, i < 108 → wt_dom w i) {σ : wt_St} {q : Int32 × wt_St} (h : wp_wk_stillSaid n x1 σ = some q) : wt_Ctr l w wt_y_wk_stillSaid prog_11_method_4_code 2 (some .int) 5 [.ref (wt_ad w 86), .int x1] σ (some q.1) q.2 := by
  refine wt_ctr wt_pl_wk_stillSaid rfl (Nat.le_of_ble_eq_true rfl) [some (.ref (wt_ad w 86)), some (.int x1)] rfl ?_
  intro X hXl hXw hE hR
  subst hXl
  subst hXw
  have hE : wt_Ok X prog_11_method_4_code 2 "WornType$Weeks" 5 0 := hE
  unfold wp_wk_stillSaid at h
  refine wt_aload_n hE wp_wk_stillSaid_d0 rfl ?_
  refine wt_getr hE (r := 20) wt_lf_wk_9 (hD 86 (Nat.le_of_ble_eq_true rfl)) wt_L86 rfl wp_wk_stillSaid_d1 ?_
  refine wt_iload_n hE wp_wk_stillSaid_d4 rfl ?_
  refine wt_aload_n hE wp_wk_stillSaid_d5 rfl ?_
  refine wt_getr hE (r := 100) wt_lf_wk_39 (hD 86 (Nat.le_of_ble_eq_true rfl)) wt_L86 rfl wp_wk_stillSaid_d6 ?_
  obtain ⟨q1, hq1, h⟩ := wt_bi h
  refine wt_callVv hE [.int x1, .ref (wt_ad (wt_xw X) 100)] wt_lm_wk_81 wt_ya_tg_spell (wp_tg_spell_ok wt_isTongue_20 (fun j hj => hD (20 + j) (by omega)) (wt_lnE wt_L100) (hD 100 (Nat.le_of_ble_eq_true rfl)) hq1) (by omega) (hD 20 (Nat.le_of_ble_eq_true rfl)) wt_L20 rfl rfl rfl (Nat.le_of_ble_eq_true rfl) (Nat.zero_le _) wp_wk_stillSaid_d9 ?_
  refine wt_aload_n hE wp_wk_stillSaid_d12 rfl ?_
  refine wt_getr hE (r := 76) wt_lf_wk_23 (hD 86 (Nat.le_of_ble_eq_true rfl)) wt_L86 rfl wp_wk_stillSaid_d13 ?_
  refine wt_aload_n hE wp_wk_stillSaid_d16 rfl ?_
  refine wt_getr hE (r := 100) wt_lf_wk_39 (hD 86 (Nat.le_of_ble_eq_true rfl)) wt_L86 rfl wp_wk_stillSaid_d17 ?_
  refine wt_aload_n hE wp_wk_stillSaid_d20 rfl ?_
  refine wt_getr hE (r := 98) wt_lf_wk_32 (hD 86 (Nat.le_of_ble_eq_true rfl)) wt_L86 rfl wp_wk_stillSaid_d21 ?_
  obtain ⟨q2, hq2, h⟩ := wt_bi h
  refine wt_callVi hE [.ref (wt_ad (wt_xw X) 100), .ref (wt_ad (wt_xw X) 98)] wt_lm_wk_87 wt_ya_sk_often (wp_sk_often_ok hD (wt_lnE wt_L100) (hD 100 (Nat.le_of_ble_eq_true rfl)) (wt_lnE wt_L98) (hD 98 (Nat.le_of_ble_eq_true rfl)) hq2) (by omega) (hD 76 (Nat.le_of_ble_eq_true rfl)) wt_L76 rfl rfl rfl (Nat.le_of_ble_eq_true rfl) (Nat.zero_le _) wp_wk_stillSaid_d24 (fun hbq2 => ?_)
  cases h
  exact wt_iret hE hR wp_wk_stillSaid_d27
def wb11m1_prog_11_method_6_code_r2 : List (List Nat) := [29, 184, 0, 70, 4, 96, 172, 132, 2, 1, 167, 255, 206, 2, 172] :: []
def wb11m1_prog_11_method_6_code_r1 : List (List Nat) := [180, 0, 36, 28, 184, 0, 70, 62, 42, 29, 182, 0, 77, 42, 27, 182, 0, 96, 154, 0, 17, 42, 180, 0, 19, 180, 0, 74] :: wb11m1_prog_11_method_6_code_r2
def wb11m1_prog_11_method_6_code_r0 : List (List Nat) := [42, 182, 0, 64, 42, 27, 182, 0, 96, 154, 0, 5, 3, 172, 3, 61, 28, 42, 180, 0, 19, 180, 0, 67, 162, 0, 45, 42] :: wb11m1_prog_11_method_6_code_r1
set_option maxRecDepth 100000 in
theorem wb11m1_prog_11_method_6_code_c0 : wt_cs prog_11_method_6_code 0 wb11m1_prog_11_method_6_code_r0 := wt_cs_of (by decide +kernel)
theorem wb11m1_prog_11_method_6_code_c1 : wt_cs prog_11_method_6_code 28 wb11m1_prog_11_method_6_code_r1 := wt_cs_tl (m := 28) wb11m1_prog_11_method_6_code_c0 rfl rfl
theorem wb11m1_prog_11_method_6_code_c2 : wt_cs prog_11_method_6_code 56 wb11m1_prog_11_method_6_code_r2 := wt_cs_tl (m := 28) wb11m1_prog_11_method_6_code_c1 rfl rfl
theorem wp_wk_firstLost_d0 : decode prog_11_method_6_code 0 = .ok (.aload_n 0, 1) := wt_op42 wb11m1_prog_11_method_6_code_c0 0 rfl rfl
theorem wp_wk_firstLost_d1 : decode prog_11_method_6_code 1 = .ok (.invokevirtual 64, 3) := wt_op182 wb11m1_prog_11_method_6_code_c0 1 rfl rfl rfl
theorem wp_wk_firstLost_d4 : decode prog_11_method_6_code 4 = .ok (.aload_n 0, 1) := wt_op42 wb11m1_prog_11_method_6_code_c0 4 rfl rfl
theorem wp_wk_firstLost_d5 : decode prog_11_method_6_code 5 = .ok (.iload_n 1, 1) := wt_op27 wb11m1_prog_11_method_6_code_c0 5 rfl rfl
theorem wp_wk_firstLost_d6 : decode prog_11_method_6_code 6 = .ok (.invokevirtual 96, 3) := wt_op182 wb11m1_prog_11_method_6_code_c0 6 rfl rfl rfl
theorem wp_wk_firstLost_d9 : decode prog_11_method_6_code 9 = .ok (.ifCond .ne 5, 3) := wt_op154 wb11m1_prog_11_method_6_code_c0 9 rfl rfl rfl
theorem wp_wk_firstLost_d12 : decode prog_11_method_6_code 12 = .ok (.iconst 0, 1) := wt_op3 wb11m1_prog_11_method_6_code_c0 12 rfl rfl
theorem wp_wk_firstLost_d13 : decode prog_11_method_6_code 13 = .ok (.ireturn, 1) := wt_op172 wb11m1_prog_11_method_6_code_c0 13 rfl rfl
theorem wp_wk_firstLost_d14 : decode prog_11_method_6_code 14 = .ok (.iconst 0, 1) := wt_op3 wb11m1_prog_11_method_6_code_c0 14 rfl rfl
theorem wp_wk_firstLost_d15 : decode prog_11_method_6_code 15 = .ok (.istore_n 2, 1) := wt_op61 wb11m1_prog_11_method_6_code_c0 15 rfl rfl
theorem wp_wk_firstLost_d16 : decode prog_11_method_6_code 16 = .ok (.iload_n 2, 1) := wt_op28 wb11m1_prog_11_method_6_code_c0 16 rfl rfl
theorem wp_wk_firstLost_d17 : decode prog_11_method_6_code 17 = .ok (.aload_n 0, 1) := wt_op42 wb11m1_prog_11_method_6_code_c0 17 rfl rfl
theorem wp_wk_firstLost_d18 : decode prog_11_method_6_code 18 = .ok (.getfield 19, 3) := wt_op180 wb11m1_prog_11_method_6_code_c0 18 rfl rfl rfl
theorem wp_wk_firstLost_d21 : decode prog_11_method_6_code 21 = .ok (.getfield 67, 3) := wt_op180 wb11m1_prog_11_method_6_code_c0 21 rfl rfl rfl
theorem wp_wk_firstLost_d24 : decode prog_11_method_6_code 24 = .ok (.if_icmp .ge 45, 3) := wt_op162 wb11m1_prog_11_method_6_code_c0 24 rfl rfl rfl
theorem wp_wk_firstLost_d27 : decode prog_11_method_6_code 27 = .ok (.aload_n 0, 1) := wt_op42 wb11m1_prog_11_method_6_code_c0 27 rfl rfl
theorem wp_wk_firstLost_d28 : decode prog_11_method_6_code 28 = .ok (.getfield 36, 3) := wt_op180 wb11m1_prog_11_method_6_code_c1 0 rfl rfl rfl
theorem wp_wk_firstLost_d31 : decode prog_11_method_6_code 31 = .ok (.iload_n 2, 1) := wt_op28 wb11m1_prog_11_method_6_code_c1 3 rfl rfl
theorem wp_wk_firstLost_d32 : decode prog_11_method_6_code 32 = .ok (.invokestatic 70, 3) := wt_op184 wb11m1_prog_11_method_6_code_c1 4 rfl rfl rfl
theorem wp_wk_firstLost_d35 : decode prog_11_method_6_code 35 = .ok (.istore_n 3, 1) := wt_op62 wb11m1_prog_11_method_6_code_c1 7 rfl rfl
theorem wp_wk_firstLost_d36 : decode prog_11_method_6_code 36 = .ok (.aload_n 0, 1) := wt_op42 wb11m1_prog_11_method_6_code_c1 8 rfl rfl
theorem wp_wk_firstLost_d37 : decode prog_11_method_6_code 37 = .ok (.iload_n 3, 1) := wt_op29 wb11m1_prog_11_method_6_code_c1 9 rfl rfl
theorem wp_wk_firstLost_d38 : decode prog_11_method_6_code 38 = .ok (.invokevirtual 77, 3) := wt_op182 wb11m1_prog_11_method_6_code_c1 10 rfl rfl rfl
theorem wp_wk_firstLost_d41 : decode prog_11_method_6_code 41 = .ok (.aload_n 0, 1) := wt_op42 wb11m1_prog_11_method_6_code_c1 13 rfl rfl
theorem wp_wk_firstLost_d42 : decode prog_11_method_6_code 42 = .ok (.iload_n 1, 1) := wt_op27 wb11m1_prog_11_method_6_code_c1 14 rfl rfl
theorem wp_wk_firstLost_d43 : decode prog_11_method_6_code 43 = .ok (.invokevirtual 96, 3) := wt_op182 wb11m1_prog_11_method_6_code_c1 15 rfl rfl rfl
theorem wp_wk_firstLost_d46 : decode prog_11_method_6_code 46 = .ok (.ifCond .ne 17, 3) := wt_op154 wb11m1_prog_11_method_6_code_c1 18 rfl rfl rfl
theorem wp_wk_firstLost_d49 : decode prog_11_method_6_code 49 = .ok (.aload_n 0, 1) := wt_op42 wb11m1_prog_11_method_6_code_c1 21 rfl rfl
theorem wp_wk_firstLost_d50 : decode prog_11_method_6_code 50 = .ok (.getfield 19, 3) := wt_op180 wb11m1_prog_11_method_6_code_c1 22 rfl rfl rfl
theorem wp_wk_firstLost_d53 : decode prog_11_method_6_code 53 = .ok (.getfield 74, 3) := wt_op180 wb11m1_prog_11_method_6_code_c1 25 rfl rfl rfl
theorem wp_wk_firstLost_d56 : decode prog_11_method_6_code 56 = .ok (.iload_n 3, 1) := wt_op29 wb11m1_prog_11_method_6_code_c2 0 rfl rfl
theorem wp_wk_firstLost_d57 : decode prog_11_method_6_code 57 = .ok (.invokestatic 70, 3) := wt_op184 wb11m1_prog_11_method_6_code_c2 1 rfl rfl rfl
theorem wp_wk_firstLost_d60 : decode prog_11_method_6_code 60 = .ok (.iconst 1, 1) := wt_op4 wb11m1_prog_11_method_6_code_c2 4 rfl rfl
theorem wp_wk_firstLost_d61 : decode prog_11_method_6_code 61 = .ok (.iadd, 1) := wt_op96 wb11m1_prog_11_method_6_code_c2 5 rfl rfl
theorem wp_wk_firstLost_d62 : decode prog_11_method_6_code 62 = .ok (.ireturn, 1) := wt_op172 wb11m1_prog_11_method_6_code_c2 6 rfl rfl
theorem wp_wk_firstLost_d63 : decode prog_11_method_6_code 63 = .ok (.iinc 2 1, 3) := wt_op132 wb11m1_prog_11_method_6_code_c2 7 rfl rfl rfl
theorem wp_wk_firstLost_d66 : decode prog_11_method_6_code 66 = .ok (.goto (-50), 3) := wt_op167 wb11m1_prog_11_method_6_code_c2 10 rfl rfl rfl
theorem wp_wk_firstLost_d69 : decode prog_11_method_6_code 69 = .ok (.iconst (-1), 1) := wt_op2 wb11m1_prog_11_method_6_code_c2 13 rfl rfl
theorem wp_wk_firstLost_d70 : decode prog_11_method_6_code 70 = .ok (.ireturn, 1) := wt_op172 wb11m1_prog_11_method_6_code_c2 14 rfl rfl
noncomputable def wp_wk_firstLost_B16 (n : Nat) (x1 : Int32) (K16 : Int32 × wt_St → Option (Int32 × wt_St)) (s : Int32 × wt_St) : Option (Int32 × wt_St) :=
  if (wt_gf s.2 39 8) ≤ s.1 then
    some ((-1 : Int32), s.2)
  else
    (wp_ap_look n 99 s.1 s.2).bind fun q5 =>
    (wp_wk_printNext n q5.1 q5.2).bind fun q6 =>
    (wp_wk_stillSaid n x1 q6).bind fun q7 =>
    if q7.1 = 0 then
      (wp_ap_look n 46 q5.1 q7.2).bind fun q9 =>
      some ((q9.1 + (1 : Int32)), q9.2)
    else
      K16 ((s.1 + (1 : Int32)), q7.2)
set_option maxRecDepth 100000 in
set_option maxHeartbeats 4000000 in
theorem wp_wk_firstLost_B16_ok  {x1 : Int32} {X : wt_X} {n : Nat} {res : Int32 × wt_St} (hE : wt_Ok X prog_11_method_6_code 4 "WornType$Weeks" 6 0) (hR : wt_Rt X (some .int) (some res.1) res.2) (hD : ∀ i, i < 108 → wt_dom (wt_xw X) i)  {K16 : Int32 × wt_St → Option (Int32 × wt_St)} (hK16 : ∀ s : Int32 × wt_St, K16 s = some res → wt_V X 0 s.2 16 [some (.ref (wt_ad (wt_xw X) 86)), some (.int x1), some (.int s.1), none] []) {s : Int32 × wt_St} (h : wp_wk_firstLost_B16 n x1 K16 s = some res) : wt_V X 0 s.2 16 [some (.ref (wt_ad (wt_xw X) 86)), some (.int x1), some (.int s.1), none] [] := by
  unfold wp_wk_firstLost_B16 at h
  refine wt_iload_n hE wp_wk_firstLost_d16 rfl ?_
  refine wt_aload_n hE wp_wk_firstLost_d17 rfl ?_
  refine wt_getr hE (r := 39) wt_lf_wk_19 (hD 86 (Nat.le_of_ble_eq_true rfl)) wt_L86 rfl wp_wk_firstLost_d18 ?_
  refine wt_geti hE wt_lf_wk_67 (hD 39 (Nat.le_of_ble_eq_true rfl)) wt_L39 rfl wp_wk_firstLost_d21 ?_
  refine wt_icmp_ge hE 69 wp_wk_firstLost_d24 rfl (fun c4 => ?_) (fun c4 => ?_)
  · have h := wt_ip c4 h
    refine wt_iconst hE (-1 : Int32) wp_wk_firstLost_d69 wt_ci_m1 ?_
    cases h
    exact wt_iret hE hR wp_wk_firstLost_d70
  · have h := wt_in c4 h
    refine wt_aload_n hE wp_wk_firstLost_d27 rfl ?_
    refine wt_getr hE (r := 99) wt_lf_wk_36 (hD 86 (Nat.le_of_ble_eq_true rfl)) wt_L86 rfl wp_wk_firstLost_d28 ?_
    refine wt_iload_n hE wp_wk_firstLost_d31 rfl ?_
    obtain ⟨q5, hq5, h⟩ := wt_bi h
    refine wt_callSi hE [.ref (wt_ad (wt_xw X) 99), .int s.1] wt_lm_wk_70 wt_ya_ap_look (wp_ap_look_ok (wt_lnE wt_L99) (hD 99 (Nat.le_of_ble_eq_true rfl)) hq5) (by omega) rfl rfl (Nat.le_of_ble_eq_true rfl) (Nat.zero_le _) wp_wk_firstLost_d32 (fun hbq5 => ?_)
    refine wt_istore_n hE [some (.ref (wt_ad (wt_xw X) 86)), some (.int x1), some (.int s.1), some (.int q5.1)] wp_wk_firstLost_d35 (by decide) rfl ?_
    refine wt_aload_n hE wp_wk_firstLost_d36 rfl ?_
    refine wt_iload_n hE wp_wk_firstLost_d37 rfl ?_
    obtain ⟨q6, hq6, h⟩ := wt_bi h
    refine wt_callVv hE [.int q5.1] wt_lm_wk_77 wt_ya_wk_printNext (wp_wk_printNext_ok hD hq6) (by omega) (hD 86 (Nat.le_of_ble_eq_true rfl)) wt_L86 rfl rfl rfl (Nat.le_of_ble_eq_true rfl) (Nat.zero_le _) wp_wk_firstLost_d38 ?_
    refine wt_aload_n hE wp_wk_firstLost_d41 rfl ?_
    refine wt_iload_n hE wp_wk_firstLost_d42 rfl ?_
    obtain ⟨q7, hq7, h⟩ := wt_bi h
    refine wt_callVi hE [.int x1] wt_lm_wk_96 wt_ya_wk_stillSaid (wp_wk_stillSaid_ok hD hq7) (by omega) (hD 86 (Nat.le_of_ble_eq_true rfl)) wt_L86 rfl rfl rfl (Nat.le_of_ble_eq_true rfl) (Nat.zero_le _) wp_wk_firstLost_d43 (fun hbq7 => ?_)
    refine wt_if_ne hE 63 wp_wk_firstLost_d46 rfl (fun c8 => ?_) (fun c8 => ?_)
    · have h := wt_in c8 h
      refine wt_iinc hE (s.1 + (1 : Int32)) [some (.ref (wt_ad (wt_xw X) 86)), some (.int x1), some (.int (s.1 + (1 : Int32))), some (.int q5.1)] wp_wk_firstLost_d63 (by decide) rfl rfl rfl ?_
      refine wt_goto hE 16 wp_wk_firstLost_d66 rfl ?_
      refine wt_wk [true, true, true, false] rfl ?_
      exact hK16 ((s.1 + (1 : Int32)), q7.2) h
    · have h := wt_ip c8 h
      refine wt_aload_n hE wp_wk_firstLost_d49 rfl ?_
      refine wt_getr hE (r := 39) wt_lf_wk_19 (hD 86 (Nat.le_of_ble_eq_true rfl)) wt_L86 rfl wp_wk_firstLost_d50 ?_
      refine wt_getr hE (r := 46) wt_lf_wk_74 (hD 39 (Nat.le_of_ble_eq_true rfl)) wt_L39 rfl wp_wk_firstLost_d53 ?_
      refine wt_iload_n hE wp_wk_firstLost_d56 rfl ?_
      obtain ⟨q9, hq9, h⟩ := wt_bi h
      refine wt_callSi hE [.ref (wt_ad (wt_xw X) 46), .int q5.1] wt_lm_wk_70 wt_ya_ap_look (wp_ap_look_ok (wt_lnE wt_L46) (hD 46 (Nat.le_of_ble_eq_true rfl)) hq9) (by omega) rfl rfl (Nat.le_of_ble_eq_true rfl) (Nat.zero_le _) wp_wk_firstLost_d57 (fun hbq9 => ?_)
      refine wt_iconst hE (1 : Int32) wp_wk_firstLost_d60 wt_ci_1 ?_
      refine wt_iadd hE wp_wk_firstLost_d61 ?_
      cases h
      exact wt_iret hE hR wp_wk_firstLost_d62
noncomputable def wp_wk_firstLost (n : Nat) (x1 : Int32) (σ : wt_St) : Option (Int32 × wt_St) :=
  (wp_wk_startGreedy n σ).bind fun q1 =>
  (wp_wk_stillSaid n x1 q1).bind fun q2 =>
  if q2.1 = 0 then
    some ((0 : Int32), q2.2)
  else
    wt_it (wp_wk_firstLost_B16 n x1) n ((0 : Int32), q2.2)
set_option maxRecDepth 100000 in
set_option maxHeartbeats 4000000 in
theorem wp_wk_firstLost_ok {l : Launch} {w : wt_E} {n : Nat} {x1 : Int32} (hD : ∀ i, i < 108 → wt_dom w i) {σ : wt_St} {q : Int32 × wt_St} (h : wp_wk_firstLost n x1 σ = some q) : wt_Ctr l w wt_y_wk_firstLost prog_11_method_6_code 4 (some .int) 6 [.ref (wt_ad w 86), .int x1] σ (some q.1) q.2 := by
  refine wt_ctr wt_pl_wk_firstLost rfl (Nat.le_of_ble_eq_true rfl) [some (.ref (wt_ad w 86)), some (.int x1), none, none] rfl ?_
  intro X hXl hXw hE hR
  subst hXl
  subst hXw
  have hE : wt_Ok X prog_11_method_6_code 4 "WornType$Weeks" 6 0 := hE
  unfold wp_wk_firstLost at h
  refine wt_aload_n hE wp_wk_firstLost_d0 rfl ?_
  obtain ⟨q1, hq1, h⟩ := wt_bi h
  refine wt_callVv hE [] wt_lm_wk_64 wt_ya_wk_startGreedy (wp_wk_startGreedy_ok hD hq1) (by omega) (hD 86 (Nat.le_of_ble_eq_true rfl)) wt_L86 rfl rfl rfl (Nat.le_of_ble_eq_true rfl) (Nat.zero_le _) wp_wk_firstLost_d1 ?_
  refine wt_aload_n hE wp_wk_firstLost_d4 rfl ?_
  refine wt_iload_n hE wp_wk_firstLost_d5 rfl ?_
  obtain ⟨q2, hq2, h⟩ := wt_bi h
  refine wt_callVi hE [.int x1] wt_lm_wk_96 wt_ya_wk_stillSaid (wp_wk_stillSaid_ok hD hq2) (by omega) (hD 86 (Nat.le_of_ble_eq_true rfl)) wt_L86 rfl rfl rfl (Nat.le_of_ble_eq_true rfl) (Nat.zero_le _) wp_wk_firstLost_d6 (fun hbq2 => ?_)
  refine wt_if_ne hE 14 wp_wk_firstLost_d9 rfl (fun c3 => ?_) (fun c3 => ?_)
  · have h := wt_in c3 h
    refine wt_iconst hE (0 : Int32) wp_wk_firstLost_d14 wt_ci_0 ?_
    refine wt_istore_n hE [some (.ref (wt_ad (wt_xw X) 86)), some (.int x1), some (.int (0 : Int32)), none] wp_wk_firstLost_d15 (by decide) rfl ?_
    exact wt_it_ind (fun z => wt_V X 0 z.2 16 [some (.ref (wt_ad (wt_xw X) 86)), some (.int x1), some (.int z.1), none] []) (fun K hK z h => wp_wk_firstLost_B16_ok hE hR hD hK h) n ((0 : Int32), q2.2) h
  · have h := wt_ip c3 h
    refine wt_iconst hE (0 : Int32) wp_wk_firstLost_d12 wt_ci_0 ?_
    cases h
    exact wt_iret hE hR wp_wk_firstLost_d13
def wb11m1_prog_2_method_3_code_r1 : List (List Nat) := [184, 0, 48, 61, 132, 3, 1, 167, 255, 223, 28, 172] :: []
def wb11m1_prog_2_method_3_code_r0 : List (List Nat) := [3, 61, 3, 62, 29, 42, 180, 0, 18, 27, 184, 0, 44, 162, 0, 27, 28, 42, 180, 0, 21, 27, 16, 12, 104, 29, 96, 184, 0, 44] :: wb11m1_prog_2_method_3_code_r1
set_option maxRecDepth 100000 in
theorem wb11m1_prog_2_method_3_code_c0 : wt_cs prog_2_method_3_code 0 wb11m1_prog_2_method_3_code_r0 := wt_cs_of (by decide +kernel)
theorem wb11m1_prog_2_method_3_code_c1 : wt_cs prog_2_method_3_code 30 wb11m1_prog_2_method_3_code_r1 := wt_cs_tl (m := 30) wb11m1_prog_2_method_3_code_c0 rfl rfl
theorem wp_ld_mostThere_d0 : decode prog_2_method_3_code 0 = .ok (.iconst 0, 1) := wt_op3 wb11m1_prog_2_method_3_code_c0 0 rfl rfl
theorem wp_ld_mostThere_d1 : decode prog_2_method_3_code 1 = .ok (.istore_n 2, 1) := wt_op61 wb11m1_prog_2_method_3_code_c0 1 rfl rfl
theorem wp_ld_mostThere_d2 : decode prog_2_method_3_code 2 = .ok (.iconst 0, 1) := wt_op3 wb11m1_prog_2_method_3_code_c0 2 rfl rfl
theorem wp_ld_mostThere_d3 : decode prog_2_method_3_code 3 = .ok (.istore_n 3, 1) := wt_op62 wb11m1_prog_2_method_3_code_c0 3 rfl rfl
theorem wp_ld_mostThere_d4 : decode prog_2_method_3_code 4 = .ok (.iload_n 3, 1) := wt_op29 wb11m1_prog_2_method_3_code_c0 4 rfl rfl
theorem wp_ld_mostThere_d5 : decode prog_2_method_3_code 5 = .ok (.aload_n 0, 1) := wt_op42 wb11m1_prog_2_method_3_code_c0 5 rfl rfl
theorem wp_ld_mostThere_d6 : decode prog_2_method_3_code 6 = .ok (.getfield 18, 3) := wt_op180 wb11m1_prog_2_method_3_code_c0 6 rfl rfl rfl
theorem wp_ld_mostThere_d9 : decode prog_2_method_3_code 9 = .ok (.iload_n 1, 1) := wt_op27 wb11m1_prog_2_method_3_code_c0 9 rfl rfl
theorem wp_ld_mostThere_d10 : decode prog_2_method_3_code 10 = .ok (.invokestatic 44, 3) := wt_op184 wb11m1_prog_2_method_3_code_c0 10 rfl rfl rfl
theorem wp_ld_mostThere_d13 : decode prog_2_method_3_code 13 = .ok (.if_icmp .ge 27, 3) := wt_op162 wb11m1_prog_2_method_3_code_c0 13 rfl rfl rfl
theorem wp_ld_mostThere_d16 : decode prog_2_method_3_code 16 = .ok (.iload_n 2, 1) := wt_op28 wb11m1_prog_2_method_3_code_c0 16 rfl rfl
theorem wp_ld_mostThere_d17 : decode prog_2_method_3_code 17 = .ok (.aload_n 0, 1) := wt_op42 wb11m1_prog_2_method_3_code_c0 17 rfl rfl
theorem wp_ld_mostThere_d18 : decode prog_2_method_3_code 18 = .ok (.getfield 21, 3) := wt_op180 wb11m1_prog_2_method_3_code_c0 18 rfl rfl rfl
theorem wp_ld_mostThere_d21 : decode prog_2_method_3_code 21 = .ok (.iload_n 1, 1) := wt_op27 wb11m1_prog_2_method_3_code_c0 21 rfl rfl
theorem wp_ld_mostThere_d22 : decode prog_2_method_3_code 22 = .ok (.bipush 12, 2) := wt_op16 wb11m1_prog_2_method_3_code_c0 22 rfl rfl rfl
theorem wp_ld_mostThere_d24 : decode prog_2_method_3_code 24 = .ok (.imul, 1) := wt_op104 wb11m1_prog_2_method_3_code_c0 24 rfl rfl
theorem wp_ld_mostThere_d25 : decode prog_2_method_3_code 25 = .ok (.iload_n 3, 1) := wt_op29 wb11m1_prog_2_method_3_code_c0 25 rfl rfl
theorem wp_ld_mostThere_d26 : decode prog_2_method_3_code 26 = .ok (.iadd, 1) := wt_op96 wb11m1_prog_2_method_3_code_c0 26 rfl rfl
theorem wp_ld_mostThere_d27 : decode prog_2_method_3_code 27 = .ok (.invokestatic 44, 3) := wt_op184 wb11m1_prog_2_method_3_code_c0 27 rfl rfl rfl
theorem wp_ld_mostThere_d30 : decode prog_2_method_3_code 30 = .ok (.invokestatic 48, 3) := wt_op184 wb11m1_prog_2_method_3_code_c1 0 rfl rfl rfl
theorem wp_ld_mostThere_d33 : decode prog_2_method_3_code 33 = .ok (.istore_n 2, 1) := wt_op61 wb11m1_prog_2_method_3_code_c1 3 rfl rfl
theorem wp_ld_mostThere_d34 : decode prog_2_method_3_code 34 = .ok (.iinc 3 1, 3) := wt_op132 wb11m1_prog_2_method_3_code_c1 4 rfl rfl rfl
theorem wp_ld_mostThere_d37 : decode prog_2_method_3_code 37 = .ok (.goto (-33), 3) := wt_op167 wb11m1_prog_2_method_3_code_c1 7 rfl rfl rfl
theorem wp_ld_mostThere_d40 : decode prog_2_method_3_code 40 = .ok (.iload_n 2, 1) := wt_op28 wb11m1_prog_2_method_3_code_c1 10 rfl rfl
theorem wp_ld_mostThere_d41 : decode prog_2_method_3_code 41 = .ok (.ireturn, 1) := wt_op172 wb11m1_prog_2_method_3_code_c1 11 rfl rfl
noncomputable def wp_ld_mostThere_B4 (n : Nat) (t0 : Nat) (x1 : Int32) (K4 : Int32 × Int32 × wt_St → Option (Int32 × wt_St)) (s : Int32 × Int32 × wt_St) : Option (Int32 × wt_St) :=
  (wp_ap_look n (t0 + 3) x1 s.2.2).bind fun q1 =>
  if q1.1 ≤ s.2.1 then
    some (s.1, q1.2)
  else
    (wp_ap_look n (t0 + 4) ((x1 * (12 : Int32)) + s.2.1) q1.2).bind fun q3 =>
    K4 ((if s.1 < q3.1 then q3.1 else s.1), (s.2.1 + (1 : Int32)), q3.2)
set_option maxRecDepth 100000 in
set_option maxHeartbeats 4000000 in
theorem wp_ld_mostThere_B4_ok  {t0 : Nat} {x1 : Int32} {X : wt_X} {n : Nat} {res : Int32 × wt_St} (hE : wt_Ok X prog_2_method_3_code 4 "WornType$Lead" 1 0) (hR : wt_Rt X (some .int) (some res.1) res.2) (hI_t0 : wt_isLead t0) (hT_t0 : ∀ j, j < 8 → wt_dom (wt_xw X) (t0 + j)) {K4 : Int32 × Int32 × wt_St → Option (Int32 × wt_St)} (hK4 : ∀ s : Int32 × Int32 × wt_St, K4 s = some res → wt_V X 0 s.2.2 4 [some (.ref (wt_ad (wt_xw X) t0)), some (.int x1), some (.int s.1), some (.int s.2.1)] []) {s : Int32 × Int32 × wt_St} (h : wp_ld_mostThere_B4 n t0 x1 K4 s = some res) : wt_V X 0 s.2.2 4 [some (.ref (wt_ad (wt_xw X) t0)), some (.int x1), some (.int s.1), some (.int s.2.1)] [] := by
  unfold wp_ld_mostThere_B4 at h
  refine wt_iload_n hE wp_ld_mostThere_d4 rfl ?_
  refine wt_aload_n hE wp_ld_mostThere_d5 rfl ?_
  refine wt_getr hE (r := (t0 + 3)) wt_lf_ld_18 (hT_t0 0 (Nat.le_of_ble_eq_true rfl)) (hI_t0.1) rfl wp_ld_mostThere_d6 ?_
  refine wt_iload_n hE wp_ld_mostThere_d9 rfl ?_
  obtain ⟨q1, hq1, h⟩ := wt_bi h
  refine wt_callSi hE [.ref (wt_ad (wt_xw X) ((t0 + 3))), .int x1] wt_lm_ld_44 wt_ya_ap_look (wp_ap_look_ok (wt_lnE (wt_isLead_L3 hI_t0)) (hT_t0 3 (Nat.le_of_ble_eq_true rfl)) hq1) (by omega) rfl rfl (Nat.le_of_ble_eq_true rfl) (Nat.zero_le _) wp_ld_mostThere_d10 (fun hbq1 => ?_)
  refine wt_icmp_ge hE 40 wp_ld_mostThere_d13 rfl (fun c2 => ?_) (fun c2 => ?_)
  · have h := wt_ip c2 h
    refine wt_iload_n hE wp_ld_mostThere_d40 rfl ?_
    cases h
    exact wt_iret hE hR wp_ld_mostThere_d41
  · have h := wt_in c2 h
    refine wt_iload_n hE wp_ld_mostThere_d16 rfl ?_
    refine wt_aload_n hE wp_ld_mostThere_d17 rfl ?_
    refine wt_getr hE (r := (t0 + 4)) wt_lf_ld_21 (hT_t0 0 (Nat.le_of_ble_eq_true rfl)) (hI_t0.1) rfl wp_ld_mostThere_d18 ?_
    refine wt_iload_n hE wp_ld_mostThere_d21 rfl ?_
    refine wt_bipush hE (12 : Int32) wp_ld_mostThere_d22 wt_cb_12 ?_
    refine wt_imul hE wp_ld_mostThere_d24 ?_
    refine wt_iload_n hE wp_ld_mostThere_d25 rfl ?_
    refine wt_iadd hE wp_ld_mostThere_d26 ?_
    obtain ⟨q3, hq3, h⟩ := wt_bi h
    refine wt_callSi hE [.ref (wt_ad (wt_xw X) ((t0 + 4))), .int ((x1 * (12 : Int32)) + s.2.1)] wt_lm_ld_44 wt_ya_ap_look (wp_ap_look_ok (wt_lnE (wt_isLead_L4 hI_t0)) (hT_t0 4 (Nat.le_of_ble_eq_true rfl)) hq3) (by omega) rfl rfl (Nat.le_of_ble_eq_true rfl) (Nat.zero_le _) wp_ld_mostThere_d27 (fun hbq3 => ?_)
    refine wt_max hE wt_lm_ld_48 wt_ms_max wt_mi wt_mc_max (by omega) (Nat.zero_le _) (Nat.le_of_ble_eq_true rfl) wp_ld_mostThere_d30 ?_
    refine wt_istore_n hE [some (.ref (wt_ad (wt_xw X) t0)), some (.int x1), some (.int (if s.1 < q3.1 then q3.1 else s.1)), some (.int s.2.1)] wp_ld_mostThere_d33 (by decide) rfl ?_
    refine wt_iinc hE (s.2.1 + (1 : Int32)) [some (.ref (wt_ad (wt_xw X) t0)), some (.int x1), some (.int (if s.1 < q3.1 then q3.1 else s.1)), some (.int (s.2.1 + (1 : Int32)))] wp_ld_mostThere_d34 (by decide) rfl rfl rfl ?_
    refine wt_goto hE 4 wp_ld_mostThere_d37 rfl ?_
    exact hK4 ((if s.1 < q3.1 then q3.1 else s.1), (s.2.1 + (1 : Int32)), q3.2) h
noncomputable def wp_ld_mostThere (n : Nat) (t0 : Nat) (x1 : Int32) (σ : wt_St) : Option (Int32 × wt_St) :=
  wt_it (wp_ld_mostThere_B4 n t0 x1) n ((0 : Int32), (0 : Int32), σ)
set_option maxRecDepth 100000 in
set_option maxHeartbeats 4000000 in
theorem wp_ld_mostThere_ok {l : Launch} {w : wt_E} {n : Nat} {t0 : Nat} {x1 : Int32} (hI_t0 : wt_isLead t0) (hT_t0 : ∀ j, j < 8 → wt_dom w (t0 + j)) {σ : wt_St} {q : Int32 × wt_St} (h : wp_ld_mostThere n t0 x1 σ = some q) : wt_Ctr l w wt_y_ld_mostThere prog_2_method_3_code 4 (some .int) 1 [.ref (wt_ad w t0), .int x1] σ (some q.1) q.2 := by
  refine wt_ctr wt_pl_ld_mostThere rfl (Nat.le_of_ble_eq_true rfl) [some (.ref (wt_ad w t0)), some (.int x1), none, none] rfl ?_
  intro X hXl hXw hE hR
  subst hXl
  subst hXw
  have hE : wt_Ok X prog_2_method_3_code 4 "WornType$Lead" 1 0 := hE
  unfold wp_ld_mostThere at h
  refine wt_iconst hE (0 : Int32) wp_ld_mostThere_d0 wt_ci_0 ?_
  refine wt_istore_n hE [some (.ref (wt_ad (wt_xw X) t0)), some (.int x1), some (.int (0 : Int32)), none] wp_ld_mostThere_d1 (by decide) rfl ?_
  refine wt_iconst hE (0 : Int32) wp_ld_mostThere_d2 wt_ci_0 ?_
  refine wt_istore_n hE [some (.ref (wt_ad (wt_xw X) t0)), some (.int x1), some (.int (0 : Int32)), some (.int (0 : Int32))] wp_ld_mostThere_d3 (by decide) rfl ?_
  exact wt_it_ind (fun z => wt_V X 0 z.2.2 4 [some (.ref (wt_ad (wt_xw X) t0)), some (.int x1), some (.int z.1), some (.int z.2.1)] []) (fun K hK z h => wp_ld_mostThere_B4_ok hE hR hI_t0 hT_t0 hK h) n ((0 : Int32), (0 : Int32), σ) h
def wb11m1_prog_10_method_2_code_r5 : List (List Nat) := [172] :: []
def wb11m1_prog_10_method_2_code_r4 : List (List Nat) := [164, 0, 15, 21, 7, 61, 21, 4, 16, 100, 104, 21, 5, 96, 62, 132, 5, 1, 167, 255, 175, 132, 4, 1, 167, 255, 159, 29] :: wb11m1_prog_10_method_2_code_r5
def wb11m1_prog_10_method_2_code_r3 : List (List Nat) := [167, 0, 4, 3, 54, 6, 21, 6, 153, 0, 14, 42, 21, 4, 21, 5, 182, 0, 53, 167, 0, 4, 3, 54, 7, 21, 7, 28] :: wb11m1_prog_10_method_2_code_r4
def wb11m1_prog_10_method_2_code_r2 : List (List Nat) := [42, 180, 0, 23, 21, 4, 182, 0, 57, 158, 0, 22, 42, 180, 0, 9, 180, 0, 62, 21, 5, 184, 0, 65, 158, 0, 7, 4] :: wb11m1_prog_10_method_2_code_r3
def wb11m1_prog_10_method_2_code_r1 : List (List Nat) := [42, 2, 2, 182, 0, 53, 61, 2, 62, 3, 54, 4, 21, 4, 16, 26, 162, 0, 96, 3, 54, 5, 21, 5, 16, 26, 162, 0, 80] :: wb11m1_prog_10_method_2_code_r2
def wb11m1_prog_10_method_2_code_r0 : List (List Nat) := [3, 61, 28, 16, 26, 162, 0, 23, 42, 27, 28, 42, 180, 0, 9, 28, 182, 0, 43, 182, 0, 49, 132, 2, 1, 167, 255, 233] :: wb11m1_prog_10_method_2_code_r1
set_option maxRecDepth 100000 in
theorem wb11m1_prog_10_method_2_code_c0 : wt_cs prog_10_method_2_code 0 wb11m1_prog_10_method_2_code_r0 := wt_cs_of (by decide +kernel)
theorem wb11m1_prog_10_method_2_code_c1 : wt_cs prog_10_method_2_code 28 wb11m1_prog_10_method_2_code_r1 := wt_cs_tl (m := 28) wb11m1_prog_10_method_2_code_c0 rfl rfl
theorem wb11m1_prog_10_method_2_code_c2 : wt_cs prog_10_method_2_code 57 wb11m1_prog_10_method_2_code_r2 := wt_cs_tl (m := 29) wb11m1_prog_10_method_2_code_c1 rfl rfl
theorem wb11m1_prog_10_method_2_code_c3 : wt_cs prog_10_method_2_code 85 wb11m1_prog_10_method_2_code_r3 := wt_cs_tl (m := 28) wb11m1_prog_10_method_2_code_c2 rfl rfl
theorem wb11m1_prog_10_method_2_code_c4 : wt_cs prog_10_method_2_code 113 wb11m1_prog_10_method_2_code_r4 := wt_cs_tl (m := 28) wb11m1_prog_10_method_2_code_c3 rfl rfl
theorem wb11m1_prog_10_method_2_code_c5 : wt_cs prog_10_method_2_code 141 wb11m1_prog_10_method_2_code_r5 := wt_cs_tl (m := 28) wb11m1_prog_10_method_2_code_c4 rfl rfl
theorem wp_tr_bestExchange_d0 : decode prog_10_method_2_code 0 = .ok (.iconst 0, 1) := wt_op3 wb11m1_prog_10_method_2_code_c0 0 rfl rfl
theorem wp_tr_bestExchange_d1 : decode prog_10_method_2_code 1 = .ok (.istore_n 2, 1) := wt_op61 wb11m1_prog_10_method_2_code_c0 1 rfl rfl
theorem wp_tr_bestExchange_d2 : decode prog_10_method_2_code 2 = .ok (.iload_n 2, 1) := wt_op28 wb11m1_prog_10_method_2_code_c0 2 rfl rfl
theorem wp_tr_bestExchange_d3 : decode prog_10_method_2_code 3 = .ok (.bipush 26, 2) := wt_op16 wb11m1_prog_10_method_2_code_c0 3 rfl rfl rfl
theorem wp_tr_bestExchange_d5 : decode prog_10_method_2_code 5 = .ok (.if_icmp .ge 23, 3) := wt_op162 wb11m1_prog_10_method_2_code_c0 5 rfl rfl rfl
theorem wp_tr_bestExchange_d8 : decode prog_10_method_2_code 8 = .ok (.aload_n 0, 1) := wt_op42 wb11m1_prog_10_method_2_code_c0 8 rfl rfl
theorem wp_tr_bestExchange_d9 : decode prog_10_method_2_code 9 = .ok (.iload_n 1, 1) := wt_op27 wb11m1_prog_10_method_2_code_c0 9 rfl rfl
theorem wp_tr_bestExchange_d10 : decode prog_10_method_2_code 10 = .ok (.iload_n 2, 1) := wt_op28 wb11m1_prog_10_method_2_code_c0 10 rfl rfl
theorem wp_tr_bestExchange_d11 : decode prog_10_method_2_code 11 = .ok (.aload_n 0, 1) := wt_op42 wb11m1_prog_10_method_2_code_c0 11 rfl rfl
theorem wp_tr_bestExchange_d12 : decode prog_10_method_2_code 12 = .ok (.getfield 9, 3) := wt_op180 wb11m1_prog_10_method_2_code_c0 12 rfl rfl rfl
theorem wp_tr_bestExchange_d15 : decode prog_10_method_2_code 15 = .ok (.iload_n 2, 1) := wt_op28 wb11m1_prog_10_method_2_code_c0 15 rfl rfl
theorem wp_tr_bestExchange_d16 : decode prog_10_method_2_code 16 = .ok (.invokevirtual 43, 3) := wt_op182 wb11m1_prog_10_method_2_code_c0 16 rfl rfl rfl
theorem wp_tr_bestExchange_d19 : decode prog_10_method_2_code 19 = .ok (.invokevirtual 49, 3) := wt_op182 wb11m1_prog_10_method_2_code_c0 19 rfl rfl rfl
theorem wp_tr_bestExchange_d22 : decode prog_10_method_2_code 22 = .ok (.iinc 2 1, 3) := wt_op132 wb11m1_prog_10_method_2_code_c0 22 rfl rfl rfl
theorem wp_tr_bestExchange_d25 : decode prog_10_method_2_code 25 = .ok (.goto (-23), 3) := wt_op167 wb11m1_prog_10_method_2_code_c0 25 rfl rfl rfl
theorem wp_tr_bestExchange_d28 : decode prog_10_method_2_code 28 = .ok (.aload_n 0, 1) := wt_op42 wb11m1_prog_10_method_2_code_c1 0 rfl rfl
theorem wp_tr_bestExchange_d29 : decode prog_10_method_2_code 29 = .ok (.iconst (-1), 1) := wt_op2 wb11m1_prog_10_method_2_code_c1 1 rfl rfl
theorem wp_tr_bestExchange_d30 : decode prog_10_method_2_code 30 = .ok (.iconst (-1), 1) := wt_op2 wb11m1_prog_10_method_2_code_c1 2 rfl rfl
theorem wp_tr_bestExchange_d31 : decode prog_10_method_2_code 31 = .ok (.invokevirtual 53, 3) := wt_op182 wb11m1_prog_10_method_2_code_c1 3 rfl rfl rfl
theorem wp_tr_bestExchange_d34 : decode prog_10_method_2_code 34 = .ok (.istore_n 2, 1) := wt_op61 wb11m1_prog_10_method_2_code_c1 6 rfl rfl
theorem wp_tr_bestExchange_d35 : decode prog_10_method_2_code 35 = .ok (.iconst (-1), 1) := wt_op2 wb11m1_prog_10_method_2_code_c1 7 rfl rfl
theorem wp_tr_bestExchange_d36 : decode prog_10_method_2_code 36 = .ok (.istore_n 3, 1) := wt_op62 wb11m1_prog_10_method_2_code_c1 8 rfl rfl
theorem wp_tr_bestExchange_d37 : decode prog_10_method_2_code 37 = .ok (.iconst 0, 1) := wt_op3 wb11m1_prog_10_method_2_code_c1 9 rfl rfl
theorem wp_tr_bestExchange_d38 : decode prog_10_method_2_code 38 = .ok (.istore 4, 2) := wt_op54 wb11m1_prog_10_method_2_code_c1 10 rfl rfl
theorem wp_tr_bestExchange_d40 : decode prog_10_method_2_code 40 = .ok (.iload 4, 2) := wt_op21 wb11m1_prog_10_method_2_code_c1 12 rfl rfl
theorem wp_tr_bestExchange_d42 : decode prog_10_method_2_code 42 = .ok (.bipush 26, 2) := wt_op16 wb11m1_prog_10_method_2_code_c1 14 rfl rfl rfl
theorem wp_tr_bestExchange_d44 : decode prog_10_method_2_code 44 = .ok (.if_icmp .ge 96, 3) := wt_op162 wb11m1_prog_10_method_2_code_c1 16 rfl rfl rfl
theorem wp_tr_bestExchange_d47 : decode prog_10_method_2_code 47 = .ok (.iconst 0, 1) := wt_op3 wb11m1_prog_10_method_2_code_c1 19 rfl rfl
theorem wp_tr_bestExchange_d48 : decode prog_10_method_2_code 48 = .ok (.istore 5, 2) := wt_op54 wb11m1_prog_10_method_2_code_c1 20 rfl rfl
theorem wp_tr_bestExchange_d50 : decode prog_10_method_2_code 50 = .ok (.iload 5, 2) := wt_op21 wb11m1_prog_10_method_2_code_c1 22 rfl rfl
theorem wp_tr_bestExchange_d52 : decode prog_10_method_2_code 52 = .ok (.bipush 26, 2) := wt_op16 wb11m1_prog_10_method_2_code_c1 24 rfl rfl rfl
theorem wp_tr_bestExchange_d54 : decode prog_10_method_2_code 54 = .ok (.if_icmp .ge 80, 3) := wt_op162 wb11m1_prog_10_method_2_code_c1 26 rfl rfl rfl
theorem wp_tr_bestExchange_d57 : decode prog_10_method_2_code 57 = .ok (.aload_n 0, 1) := wt_op42 wb11m1_prog_10_method_2_code_c2 0 rfl rfl
theorem wp_tr_bestExchange_d58 : decode prog_10_method_2_code 58 = .ok (.getfield 23, 3) := wt_op180 wb11m1_prog_10_method_2_code_c2 1 rfl rfl rfl
theorem wp_tr_bestExchange_d61 : decode prog_10_method_2_code 61 = .ok (.iload 4, 2) := wt_op21 wb11m1_prog_10_method_2_code_c2 4 rfl rfl
theorem wp_tr_bestExchange_d63 : decode prog_10_method_2_code 63 = .ok (.invokevirtual 57, 3) := wt_op182 wb11m1_prog_10_method_2_code_c2 6 rfl rfl rfl
theorem wp_tr_bestExchange_d66 : decode prog_10_method_2_code 66 = .ok (.ifCond .le 22, 3) := wt_op158 wb11m1_prog_10_method_2_code_c2 9 rfl rfl rfl
theorem wp_tr_bestExchange_d69 : decode prog_10_method_2_code 69 = .ok (.aload_n 0, 1) := wt_op42 wb11m1_prog_10_method_2_code_c2 12 rfl rfl
theorem wp_tr_bestExchange_d70 : decode prog_10_method_2_code 70 = .ok (.getfield 9, 3) := wt_op180 wb11m1_prog_10_method_2_code_c2 13 rfl rfl rfl
theorem wp_tr_bestExchange_d73 : decode prog_10_method_2_code 73 = .ok (.getfield 62, 3) := wt_op180 wb11m1_prog_10_method_2_code_c2 16 rfl rfl rfl
theorem wp_tr_bestExchange_d76 : decode prog_10_method_2_code 76 = .ok (.iload 5, 2) := wt_op21 wb11m1_prog_10_method_2_code_c2 19 rfl rfl
theorem wp_tr_bestExchange_d78 : decode prog_10_method_2_code 78 = .ok (.invokestatic 65, 3) := wt_op184 wb11m1_prog_10_method_2_code_c2 21 rfl rfl rfl
theorem wp_tr_bestExchange_d81 : decode prog_10_method_2_code 81 = .ok (.ifCond .le 7, 3) := wt_op158 wb11m1_prog_10_method_2_code_c2 24 rfl rfl rfl
theorem wp_tr_bestExchange_d84 : decode prog_10_method_2_code 84 = .ok (.iconst 1, 1) := wt_op4 wb11m1_prog_10_method_2_code_c2 27 rfl rfl
theorem wp_tr_bestExchange_d85 : decode prog_10_method_2_code 85 = .ok (.goto 4, 3) := wt_op167 wb11m1_prog_10_method_2_code_c3 0 rfl rfl rfl
theorem wp_tr_bestExchange_d88 : decode prog_10_method_2_code 88 = .ok (.iconst 0, 1) := wt_op3 wb11m1_prog_10_method_2_code_c3 3 rfl rfl
theorem wp_tr_bestExchange_d89 : decode prog_10_method_2_code 89 = .ok (.istore 6, 2) := wt_op54 wb11m1_prog_10_method_2_code_c3 4 rfl rfl
theorem wp_tr_bestExchange_d91 : decode prog_10_method_2_code 91 = .ok (.iload 6, 2) := wt_op21 wb11m1_prog_10_method_2_code_c3 6 rfl rfl
theorem wp_tr_bestExchange_d93 : decode prog_10_method_2_code 93 = .ok (.ifCond .eq 14, 3) := wt_op153 wb11m1_prog_10_method_2_code_c3 8 rfl rfl rfl
theorem wp_tr_bestExchange_d96 : decode prog_10_method_2_code 96 = .ok (.aload_n 0, 1) := wt_op42 wb11m1_prog_10_method_2_code_c3 11 rfl rfl
theorem wp_tr_bestExchange_d97 : decode prog_10_method_2_code 97 = .ok (.iload 4, 2) := wt_op21 wb11m1_prog_10_method_2_code_c3 12 rfl rfl
theorem wp_tr_bestExchange_d99 : decode prog_10_method_2_code 99 = .ok (.iload 5, 2) := wt_op21 wb11m1_prog_10_method_2_code_c3 14 rfl rfl
theorem wp_tr_bestExchange_d101 : decode prog_10_method_2_code 101 = .ok (.invokevirtual 53, 3) := wt_op182 wb11m1_prog_10_method_2_code_c3 16 rfl rfl rfl
theorem wp_tr_bestExchange_d104 : decode prog_10_method_2_code 104 = .ok (.goto 4, 3) := wt_op167 wb11m1_prog_10_method_2_code_c3 19 rfl rfl rfl
theorem wp_tr_bestExchange_d107 : decode prog_10_method_2_code 107 = .ok (.iconst 0, 1) := wt_op3 wb11m1_prog_10_method_2_code_c3 22 rfl rfl
theorem wp_tr_bestExchange_d108 : decode prog_10_method_2_code 108 = .ok (.istore 7, 2) := wt_op54 wb11m1_prog_10_method_2_code_c3 23 rfl rfl
theorem wp_tr_bestExchange_d110 : decode prog_10_method_2_code 110 = .ok (.iload 7, 2) := wt_op21 wb11m1_prog_10_method_2_code_c3 25 rfl rfl
theorem wp_tr_bestExchange_d112 : decode prog_10_method_2_code 112 = .ok (.iload_n 2, 1) := wt_op28 wb11m1_prog_10_method_2_code_c3 27 rfl rfl
theorem wp_tr_bestExchange_d113 : decode prog_10_method_2_code 113 = .ok (.if_icmp .le 15, 3) := wt_op164 wb11m1_prog_10_method_2_code_c4 0 rfl rfl rfl
theorem wp_tr_bestExchange_d116 : decode prog_10_method_2_code 116 = .ok (.iload 7, 2) := wt_op21 wb11m1_prog_10_method_2_code_c4 3 rfl rfl
theorem wp_tr_bestExchange_d118 : decode prog_10_method_2_code 118 = .ok (.istore_n 2, 1) := wt_op61 wb11m1_prog_10_method_2_code_c4 5 rfl rfl
theorem wp_tr_bestExchange_d119 : decode prog_10_method_2_code 119 = .ok (.iload 4, 2) := wt_op21 wb11m1_prog_10_method_2_code_c4 6 rfl rfl
theorem wp_tr_bestExchange_d121 : decode prog_10_method_2_code 121 = .ok (.bipush 100, 2) := wt_op16 wb11m1_prog_10_method_2_code_c4 8 rfl rfl rfl
theorem wp_tr_bestExchange_d123 : decode prog_10_method_2_code 123 = .ok (.imul, 1) := wt_op104 wb11m1_prog_10_method_2_code_c4 10 rfl rfl
theorem wp_tr_bestExchange_d124 : decode prog_10_method_2_code 124 = .ok (.iload 5, 2) := wt_op21 wb11m1_prog_10_method_2_code_c4 11 rfl rfl
theorem wp_tr_bestExchange_d126 : decode prog_10_method_2_code 126 = .ok (.iadd, 1) := wt_op96 wb11m1_prog_10_method_2_code_c4 13 rfl rfl
theorem wp_tr_bestExchange_d127 : decode prog_10_method_2_code 127 = .ok (.istore_n 3, 1) := wt_op62 wb11m1_prog_10_method_2_code_c4 14 rfl rfl
theorem wp_tr_bestExchange_d128 : decode prog_10_method_2_code 128 = .ok (.iinc 5 1, 3) := wt_op132 wb11m1_prog_10_method_2_code_c4 15 rfl rfl rfl
theorem wp_tr_bestExchange_d131 : decode prog_10_method_2_code 131 = .ok (.goto (-81), 3) := wt_op167 wb11m1_prog_10_method_2_code_c4 18 rfl rfl rfl
theorem wp_tr_bestExchange_d134 : decode prog_10_method_2_code 134 = .ok (.iinc 4 1, 3) := wt_op132 wb11m1_prog_10_method_2_code_c4 21 rfl rfl rfl
theorem wp_tr_bestExchange_d137 : decode prog_10_method_2_code 137 = .ok (.goto (-97), 3) := wt_op167 wb11m1_prog_10_method_2_code_c4 24 rfl rfl rfl
theorem wp_tr_bestExchange_d140 : decode prog_10_method_2_code 140 = .ok (.iload_n 3, 1) := wt_op29 wb11m1_prog_10_method_2_code_c4 27 rfl rfl
theorem wp_tr_bestExchange_d141 : decode prog_10_method_2_code 141 = .ok (.ireturn, 1) := wt_op172 wb11m1_prog_10_method_2_code_c5 0 rfl rfl
noncomputable def wp_tr_bestExchange_B128 (n : Nat) (x2 : Int32) (x3 : Int32) (x4 : Int32) (x5 : Int32) (K40 : Int32 × Int32 × Int32 × wt_St → Option (Int32 × wt_St)) (K50 : Int32 × Int32 × Int32 × wt_St → Option (Int32 × wt_St)) (σ : wt_St) : Option (Int32 × wt_St) :=
  K50 (x2, x3, (x5 + (1 : Int32)), σ)
set_option maxRecDepth 100000 in
set_option maxHeartbeats 4000000 in
theorem wp_tr_bestExchange_B128_ok  {x2 : Int32} {x3 : Int32} {x4 : Int32} {x5 : Int32} {X : wt_X} {n : Nat} {res : Int32 × wt_St} (hE : wt_Ok X prog_10_method_2_code 8 "WornType$Trade" 6 0) (hR : wt_Rt X (some .int) (some res.1) res.2) (hD : ∀ i, i < 108 → wt_dom (wt_xw X) i)  {K40 : Int32 × Int32 × Int32 × wt_St → Option (Int32 × wt_St)} (hK40 : ∀ s : Int32 × Int32 × Int32 × wt_St, K40 s = some res → wt_V X 0 s.2.2.2 40 [some (.ref (wt_ad (wt_xw X) 101)), none, some (.int s.1), some (.int s.2.1), some (.int s.2.2.1), none, none, none] []) {K50 : Int32 × Int32 × Int32 × wt_St → Option (Int32 × wt_St)} (hK50 : ∀ s : Int32 × Int32 × Int32 × wt_St, K50 s = some res → wt_V X 0 s.2.2.2 50 [some (.ref (wt_ad (wt_xw X) 101)), none, some (.int s.1), some (.int s.2.1), some (.int x4), some (.int s.2.2.1), none, none] []) {σ : wt_St} (h : wp_tr_bestExchange_B128 n x2 x3 x4 x5 K40 K50 σ = some res) : wt_V X 0 σ 128 [some (.ref (wt_ad (wt_xw X) 101)), none, some (.int x2), some (.int x3), some (.int x4), some (.int x5), none, none] [] := by
  unfold wp_tr_bestExchange_B128 at h
  refine wt_iinc hE (x5 + (1 : Int32)) [some (.ref (wt_ad (wt_xw X) 101)), none, some (.int x2), some (.int x3), some (.int x4), some (.int (x5 + (1 : Int32))), none, none] wp_tr_bestExchange_d128 (by decide) rfl rfl rfl ?_
  refine wt_goto hE 50 wp_tr_bestExchange_d131 rfl ?_
  exact hK50 (x2, x3, (x5 + (1 : Int32)), σ) h
noncomputable def wp_tr_bestExchange_B108 (n : Nat) (x2 : Int32) (x3 : Int32) (x4 : Int32) (x5 : Int32) (K40 : Int32 × Int32 × Int32 × wt_St → Option (Int32 × wt_St)) (K50 : Int32 × Int32 × Int32 × wt_St → Option (Int32 × wt_St)) (y0 : Int32) (σ : wt_St) : Option (Int32 × wt_St) :=
  if y0 ≤ x2 then
    wp_tr_bestExchange_B128 n x2 x3 x4 x5 K40 K50 σ
  else
    wp_tr_bestExchange_B128 n y0 ((x4 * (100 : Int32)) + x5) x4 x5 K40 K50 σ
set_option maxRecDepth 100000 in
set_option maxHeartbeats 4000000 in
theorem wp_tr_bestExchange_B108_ok  {x2 : Int32} {x3 : Int32} {x4 : Int32} {x5 : Int32} {X : wt_X} {n : Nat} {res : Int32 × wt_St} (hE : wt_Ok X prog_10_method_2_code 8 "WornType$Trade" 6 0) (hR : wt_Rt X (some .int) (some res.1) res.2) (hD : ∀ i, i < 108 → wt_dom (wt_xw X) i)  {K40 : Int32 × Int32 × Int32 × wt_St → Option (Int32 × wt_St)} (hK40 : ∀ s : Int32 × Int32 × Int32 × wt_St, K40 s = some res → wt_V X 0 s.2.2.2 40 [some (.ref (wt_ad (wt_xw X) 101)), none, some (.int s.1), some (.int s.2.1), some (.int s.2.2.1), none, none, none] []) {K50 : Int32 × Int32 × Int32 × wt_St → Option (Int32 × wt_St)} (hK50 : ∀ s : Int32 × Int32 × Int32 × wt_St, K50 s = some res → wt_V X 0 s.2.2.2 50 [some (.ref (wt_ad (wt_xw X) 101)), none, some (.int s.1), some (.int s.2.1), some (.int x4), some (.int s.2.2.1), none, none] []) {σ : wt_St} {y0 : Int32} (h : wp_tr_bestExchange_B108 n x2 x3 x4 x5 K40 K50 y0 σ = some res) : wt_V X 0 σ 108 [some (.ref (wt_ad (wt_xw X) 101)), none, some (.int x2), some (.int x3), some (.int x4), some (.int x5), none, none] [.int y0] := by
  unfold wp_tr_bestExchange_B108 at h
  refine wt_istore hE [some (.ref (wt_ad (wt_xw X) 101)), none, some (.int x2), some (.int x3), some (.int x4), some (.int x5), none, some (.int y0)] wp_tr_bestExchange_d108 (Nat.le_of_ble_eq_true rfl) rfl ?_
  refine wt_iload hE wp_tr_bestExchange_d110 rfl ?_
  refine wt_iload_n hE wp_tr_bestExchange_d112 rfl ?_
  refine wt_icmp_le hE 128 wp_tr_bestExchange_d113 rfl (fun c8 => ?_) (fun c8 => ?_)
  · have h := wt_ip c8 h
    refine wt_wk [true, true, true, true, true, true, true, false] rfl ?_
    exact wp_tr_bestExchange_B128_ok hE hR hD hK40 hK50 h
  · have h := wt_in c8 h
    refine wt_iload hE wp_tr_bestExchange_d116 rfl ?_
    refine wt_istore_n hE [some (.ref (wt_ad (wt_xw X) 101)), none, some (.int y0), some (.int x3), some (.int x4), some (.int x5), none, some (.int y0)] wp_tr_bestExchange_d118 (by decide) rfl ?_
    refine wt_iload hE wp_tr_bestExchange_d119 rfl ?_
    refine wt_bipush hE (100 : Int32) wp_tr_bestExchange_d121 wt_cb_100 ?_
    refine wt_imul hE wp_tr_bestExchange_d123 ?_
    refine wt_iload hE wp_tr_bestExchange_d124 rfl ?_
    refine wt_iadd hE wp_tr_bestExchange_d126 ?_
    refine wt_istore_n hE [some (.ref (wt_ad (wt_xw X) 101)), none, some (.int y0), some (.int ((x4 * (100 : Int32)) + x5)), some (.int x4), some (.int x5), none, some (.int y0)] wp_tr_bestExchange_d127 (by decide) rfl ?_
    refine wt_wk [true, true, true, true, true, true, true, false] rfl ?_
    exact wp_tr_bestExchange_B128_ok hE hR hD hK40 hK50 h
noncomputable def wp_tr_bestExchange_B89 (n : Nat) (x2 : Int32) (x3 : Int32) (x4 : Int32) (x5 : Int32) (K40 : Int32 × Int32 × Int32 × wt_St → Option (Int32 × wt_St)) (K50 : Int32 × Int32 × Int32 × wt_St → Option (Int32 × wt_St)) (y0 : Int32) (σ : wt_St) : Option (Int32 × wt_St) :=
  if y0 = 0 then
    wp_tr_bestExchange_B108 n x2 x3 x4 x5 K40 K50 (0 : Int32) σ
  else
    (wp_tr_leastOf n x4 x5 σ).bind fun q9 =>
    wp_tr_bestExchange_B108 n x2 x3 x4 x5 K40 K50 q9.1 q9.2
set_option maxRecDepth 100000 in
set_option maxHeartbeats 4000000 in
theorem wp_tr_bestExchange_B89_ok  {x2 : Int32} {x3 : Int32} {x4 : Int32} {x5 : Int32} {X : wt_X} {n : Nat} {res : Int32 × wt_St} (hE : wt_Ok X prog_10_method_2_code 8 "WornType$Trade" 6 0) (hR : wt_Rt X (some .int) (some res.1) res.2) (hD : ∀ i, i < 108 → wt_dom (wt_xw X) i)  {K40 : Int32 × Int32 × Int32 × wt_St → Option (Int32 × wt_St)} (hK40 : ∀ s : Int32 × Int32 × Int32 × wt_St, K40 s = some res → wt_V X 0 s.2.2.2 40 [some (.ref (wt_ad (wt_xw X) 101)), none, some (.int s.1), some (.int s.2.1), some (.int s.2.2.1), none, none, none] []) {K50 : Int32 × Int32 × Int32 × wt_St → Option (Int32 × wt_St)} (hK50 : ∀ s : Int32 × Int32 × Int32 × wt_St, K50 s = some res → wt_V X 0 s.2.2.2 50 [some (.ref (wt_ad (wt_xw X) 101)), none, some (.int s.1), some (.int s.2.1), some (.int x4), some (.int s.2.2.1), none, none] []) {σ : wt_St} {y0 : Int32} (h : wp_tr_bestExchange_B89 n x2 x3 x4 x5 K40 K50 y0 σ = some res) : wt_V X 0 σ 89 [some (.ref (wt_ad (wt_xw X) 101)), none, some (.int x2), some (.int x3), some (.int x4), some (.int x5), none, none] [.int y0] := by
  unfold wp_tr_bestExchange_B89 at h
  refine wt_istore hE [some (.ref (wt_ad (wt_xw X) 101)), none, some (.int x2), some (.int x3), some (.int x4), some (.int x5), some (.int y0), none] wp_tr_bestExchange_d89 (Nat.le_of_ble_eq_true rfl) rfl ?_
  refine wt_iload hE wp_tr_bestExchange_d91 rfl ?_
  refine wt_if_eq hE 107 wp_tr_bestExchange_d93 rfl (fun c7 => ?_) (fun c7 => ?_)
  · have h := wt_ip c7 h
    refine wt_iconst hE (0 : Int32) wp_tr_bestExchange_d107 wt_ci_0 ?_
    refine wt_wk [true, true, true, true, true, true, false, true] rfl ?_
    exact wp_tr_bestExchange_B108_ok hE hR hD hK40 hK50 h
  · have h := wt_in c7 h
    refine wt_aload_n hE wp_tr_bestExchange_d96 rfl ?_
    refine wt_iload hE wp_tr_bestExchange_d97 rfl ?_
    refine wt_iload hE wp_tr_bestExchange_d99 rfl ?_
    obtain ⟨q9, hq9, h⟩ := wt_bi h
    refine wt_callVi hE [.int x4, .int x5] wt_lm_tr_53 wt_ya_tr_leastOf (wp_tr_leastOf_ok hD hq9) (by omega) (hD 101 (Nat.le_of_ble_eq_true rfl)) wt_L101 rfl rfl rfl (Nat.le_of_ble_eq_true rfl) (Nat.zero_le _) wp_tr_bestExchange_d101 (fun hbq9 => ?_)
    refine wt_goto hE 108 wp_tr_bestExchange_d104 rfl ?_
    refine wt_wk [true, true, true, true, true, true, false, true] rfl ?_
    exact wp_tr_bestExchange_B108_ok hE hR hD hK40 hK50 h
noncomputable def wp_tr_bestExchange_B88 (n : Nat) (x2 : Int32) (x3 : Int32) (x4 : Int32) (x5 : Int32) (K40 : Int32 × Int32 × Int32 × wt_St → Option (Int32 × wt_St)) (K50 : Int32 × Int32 × Int32 × wt_St → Option (Int32 × wt_St)) (σ : wt_St) : Option (Int32 × wt_St) :=
  wp_tr_bestExchange_B89 n x2 x3 x4 x5 K40 K50 (0 : Int32) σ
set_option maxRecDepth 100000 in
set_option maxHeartbeats 4000000 in
theorem wp_tr_bestExchange_B88_ok  {x2 : Int32} {x3 : Int32} {x4 : Int32} {x5 : Int32} {X : wt_X} {n : Nat} {res : Int32 × wt_St} (hE : wt_Ok X prog_10_method_2_code 8 "WornType$Trade" 6 0) (hR : wt_Rt X (some .int) (some res.1) res.2) (hD : ∀ i, i < 108 → wt_dom (wt_xw X) i)  {K40 : Int32 × Int32 × Int32 × wt_St → Option (Int32 × wt_St)} (hK40 : ∀ s : Int32 × Int32 × Int32 × wt_St, K40 s = some res → wt_V X 0 s.2.2.2 40 [some (.ref (wt_ad (wt_xw X) 101)), none, some (.int s.1), some (.int s.2.1), some (.int s.2.2.1), none, none, none] []) {K50 : Int32 × Int32 × Int32 × wt_St → Option (Int32 × wt_St)} (hK50 : ∀ s : Int32 × Int32 × Int32 × wt_St, K50 s = some res → wt_V X 0 s.2.2.2 50 [some (.ref (wt_ad (wt_xw X) 101)), none, some (.int s.1), some (.int s.2.1), some (.int x4), some (.int s.2.2.1), none, none] []) {σ : wt_St} (h : wp_tr_bestExchange_B88 n x2 x3 x4 x5 K40 K50 σ = some res) : wt_V X 0 σ 88 [some (.ref (wt_ad (wt_xw X) 101)), none, some (.int x2), some (.int x3), some (.int x4), some (.int x5), none, none] [] := by
  unfold wp_tr_bestExchange_B88 at h
  refine wt_iconst hE (0 : Int32) wp_tr_bestExchange_d88 wt_ci_0 ?_
  exact wp_tr_bestExchange_B89_ok hE hR hD hK40 hK50 h
noncomputable def wp_tr_bestExchange_B50 (n : Nat) (x4 : Int32) (K40 : Int32 × Int32 × Int32 × wt_St → Option (Int32 × wt_St)) (K50 : Int32 × Int32 × Int32 × wt_St → Option (Int32 × wt_St)) (s : Int32 × Int32 × Int32 × wt_St) : Option (Int32 × wt_St) :=
  if (26 : Int32) ≤ s.2.2.1 then
    K40 (s.1, s.2.1, (x4 + (1 : Int32)), s.2.2.2)
  else
    (wp_sk_inCase n x4 s.2.2.2).bind fun q5 =>
    if q5.1 ≤ 0 then
      wp_tr_bestExchange_B88 n s.1 s.2.1 x4 s.2.2.1 K40 K50 q5.2
    else
      (wp_ap_look n 7 s.2.2.1 q5.2).bind fun q10 =>
      if q10.1 ≤ 0 then
        wp_tr_bestExchange_B88 n s.1 s.2.1 x4 s.2.2.1 K40 K50 q10.2
      else
        wp_tr_bestExchange_B89 n s.1 s.2.1 x4 s.2.2.1 K40 K50 (1 : Int32) q10.2
set_option maxRecDepth 100000 in
set_option maxHeartbeats 4000000 in
theorem wp_tr_bestExchange_B50_ok  {x4 : Int32} {X : wt_X} {n : Nat} {res : Int32 × wt_St} (hE : wt_Ok X prog_10_method_2_code 8 "WornType$Trade" 6 0) (hR : wt_Rt X (some .int) (some res.1) res.2) (hD : ∀ i, i < 108 → wt_dom (wt_xw X) i)  {K40 : Int32 × Int32 × Int32 × wt_St → Option (Int32 × wt_St)} (hK40 : ∀ s : Int32 × Int32 × Int32 × wt_St, K40 s = some res → wt_V X 0 s.2.2.2 40 [some (.ref (wt_ad (wt_xw X) 101)), none, some (.int s.1), some (.int s.2.1), some (.int s.2.2.1), none, none, none] []) {K50 : Int32 × Int32 × Int32 × wt_St → Option (Int32 × wt_St)} (hK50 : ∀ s : Int32 × Int32 × Int32 × wt_St, K50 s = some res → wt_V X 0 s.2.2.2 50 [some (.ref (wt_ad (wt_xw X) 101)), none, some (.int s.1), some (.int s.2.1), some (.int x4), some (.int s.2.2.1), none, none] []) {s : Int32 × Int32 × Int32 × wt_St} (h : wp_tr_bestExchange_B50 n x4 K40 K50 s = some res) : wt_V X 0 s.2.2.2 50 [some (.ref (wt_ad (wt_xw X) 101)), none, some (.int s.1), some (.int s.2.1), some (.int x4), some (.int s.2.2.1), none, none] [] := by
  unfold wp_tr_bestExchange_B50 at h
  refine wt_iload hE wp_tr_bestExchange_d50 rfl ?_
  refine wt_bipush hE (26 : Int32) wp_tr_bestExchange_d52 wt_cb_26 ?_
  refine wt_icmp_ge hE 134 wp_tr_bestExchange_d54 rfl (fun c4 => ?_) (fun c4 => ?_)
  · have h := wt_ip c4 h
    refine wt_iinc hE (x4 + (1 : Int32)) [some (.ref (wt_ad (wt_xw X) 101)), none, some (.int s.1), some (.int s.2.1), some (.int (x4 + (1 : Int32))), some (.int s.2.2.1), none, none] wp_tr_bestExchange_d134 (by decide) rfl rfl rfl ?_
    refine wt_goto hE 40 wp_tr_bestExchange_d137 rfl ?_
    refine wt_wk [true, true, true, true, true, false, true, true] rfl ?_
    exact hK40 (s.1, s.2.1, (x4 + (1 : Int32)), s.2.2.2) h
  · have h := wt_in c4 h
    refine wt_aload_n hE wp_tr_bestExchange_d57 rfl ?_
    refine wt_getr hE (r := 76) wt_lf_tr_23 (hD 101 (Nat.le_of_ble_eq_true rfl)) wt_L101 rfl wp_tr_bestExchange_d58 ?_
    refine wt_iload hE wp_tr_bestExchange_d61 rfl ?_
    obtain ⟨q5, hq5, h⟩ := wt_bi h
    refine wt_callVi hE [.int x4] wt_lm_tr_57 wt_ya_sk_inCase (wp_sk_inCase_ok hD hq5) (by omega) (hD 76 (Nat.le_of_ble_eq_true rfl)) wt_L76 rfl rfl rfl (Nat.le_of_ble_eq_true rfl) (Nat.zero_le _) wp_tr_bestExchange_d63 (fun hbq5 => ?_)
    refine wt_if_le hE 88 wp_tr_bestExchange_d66 rfl (fun c6 => ?_) (fun c6 => ?_)
    · have h := wt_ip c6 h
      exact wp_tr_bestExchange_B88_ok hE hR hD hK40 hK50 h
    · have h := wt_in c6 h
      refine wt_aload_n hE wp_tr_bestExchange_d69 rfl ?_
      refine wt_getr hE (r := 4) wt_lf_tr_9 (hD 101 (Nat.le_of_ble_eq_true rfl)) wt_L101 rfl wp_tr_bestExchange_d70 ?_
      refine wt_getr hE (r := 7) wt_lf_tr_62 (hD 4 (Nat.le_of_ble_eq_true rfl)) wt_L4 rfl wp_tr_bestExchange_d73 ?_
      refine wt_iload hE wp_tr_bestExchange_d76 rfl ?_
      obtain ⟨q10, hq10, h⟩ := wt_bi h
      refine wt_callSi hE [.ref (wt_ad (wt_xw X) 7), .int s.2.2.1] wt_lm_tr_65 wt_ya_ap_look (wp_ap_look_ok (wt_lnE wt_L7) (hD 7 (Nat.le_of_ble_eq_true rfl)) hq10) (by omega) rfl rfl (Nat.le_of_ble_eq_true rfl) (Nat.zero_le _) wp_tr_bestExchange_d78 (fun hbq10 => ?_)
      refine wt_if_le hE 88 wp_tr_bestExchange_d81 rfl (fun c11 => ?_) (fun c11 => ?_)
      · have h := wt_ip c11 h
        exact wp_tr_bestExchange_B88_ok hE hR hD hK40 hK50 h
      · have h := wt_in c11 h
        refine wt_iconst hE (1 : Int32) wp_tr_bestExchange_d84 wt_ci_1 ?_
        refine wt_goto hE 89 wp_tr_bestExchange_d85 rfl ?_
        exact wp_tr_bestExchange_B89_ok hE hR hD hK40 hK50 h
noncomputable def wp_tr_bestExchange_B40 (n : Nat) (K40 : Int32 × Int32 × Int32 × wt_St → Option (Int32 × wt_St)) (s : Int32 × Int32 × Int32 × wt_St) : Option (Int32 × wt_St) :=
  if (26 : Int32) ≤ s.2.2.1 then
    some (s.2.1, s.2.2.2)
  else
    wt_it (wp_tr_bestExchange_B50 n s.2.2.1 K40) n (s.1, s.2.1, (0 : Int32), s.2.2.2)
set_option maxRecDepth 100000 in
set_option maxHeartbeats 4000000 in
theorem wp_tr_bestExchange_B40_ok  {X : wt_X} {n : Nat} {res : Int32 × wt_St} (hE : wt_Ok X prog_10_method_2_code 8 "WornType$Trade" 6 0) (hR : wt_Rt X (some .int) (some res.1) res.2) (hD : ∀ i, i < 108 → wt_dom (wt_xw X) i)  {K40 : Int32 × Int32 × Int32 × wt_St → Option (Int32 × wt_St)} (hK40 : ∀ s : Int32 × Int32 × Int32 × wt_St, K40 s = some res → wt_V X 0 s.2.2.2 40 [some (.ref (wt_ad (wt_xw X) 101)), none, some (.int s.1), some (.int s.2.1), some (.int s.2.2.1), none, none, none] []) {s : Int32 × Int32 × Int32 × wt_St} (h : wp_tr_bestExchange_B40 n K40 s = some res) : wt_V X 0 s.2.2.2 40 [some (.ref (wt_ad (wt_xw X) 101)), none, some (.int s.1), some (.int s.2.1), some (.int s.2.2.1), none, none, none] [] := by
  unfold wp_tr_bestExchange_B40 at h
  refine wt_iload hE wp_tr_bestExchange_d40 rfl ?_
  refine wt_bipush hE (26 : Int32) wp_tr_bestExchange_d42 wt_cb_26 ?_
  refine wt_icmp_ge hE 140 wp_tr_bestExchange_d44 rfl (fun c3 => ?_) (fun c3 => ?_)
  · have h := wt_ip c3 h
    refine wt_iload_n hE wp_tr_bestExchange_d140 rfl ?_
    cases h
    exact wt_iret hE hR wp_tr_bestExchange_d141
  · have h := wt_in c3 h
    refine wt_iconst hE (0 : Int32) wp_tr_bestExchange_d47 wt_ci_0 ?_
    refine wt_istore hE [some (.ref (wt_ad (wt_xw X) 101)), none, some (.int s.1), some (.int s.2.1), some (.int s.2.2.1), some (.int (0 : Int32)), none, none] wp_tr_bestExchange_d48 (Nat.le_of_ble_eq_true rfl) rfl ?_
    exact wt_it_ind (fun z => wt_V X 0 z.2.2.2 50 [some (.ref (wt_ad (wt_xw X) 101)), none, some (.int z.1), some (.int z.2.1), some (.int s.2.2.1), some (.int z.2.2.1), none, none] []) (fun K hK z h => wp_tr_bestExchange_B50_ok hE hR hD hK40 hK h) n (s.1, s.2.1, (0 : Int32), s.2.2.2) h
noncomputable def wp_tr_bestExchange_B2 (n : Nat) (x1 : Int32) (K2 : Int32 × wt_St → Option (Int32 × wt_St)) (s : Int32 × wt_St) : Option (Int32 × wt_St) :=
  if (26 : Int32) ≤ s.1 then
    (wp_tr_leastOf n (-1 : Int32) (-1 : Int32) s.2).bind fun q2 =>
    wt_it (wp_tr_bestExchange_B40 n) n (q2.1, (-1 : Int32), (0 : Int32), q2.2)
  else
    (wp_ld_mostThere n 4 s.1 s.2).bind fun q12 =>
    (wp_tr_weigh n x1 s.1 q12.1 q12.2).bind fun q13 =>
    K2 ((s.1 + (1 : Int32)), q13)
set_option maxRecDepth 100000 in
set_option maxHeartbeats 4000000 in
theorem wp_tr_bestExchange_B2_ok  {x1 : Int32} {X : wt_X} {n : Nat} {res : Int32 × wt_St} (hE : wt_Ok X prog_10_method_2_code 8 "WornType$Trade" 6 0) (hR : wt_Rt X (some .int) (some res.1) res.2) (hD : ∀ i, i < 108 → wt_dom (wt_xw X) i)  {K2 : Int32 × wt_St → Option (Int32 × wt_St)} (hK2 : ∀ s : Int32 × wt_St, K2 s = some res → wt_V X 0 s.2 2 [some (.ref (wt_ad (wt_xw X) 101)), some (.int x1), some (.int s.1), none, none, none, none, none] []) {s : Int32 × wt_St} (h : wp_tr_bestExchange_B2 n x1 K2 s = some res) : wt_V X 0 s.2 2 [some (.ref (wt_ad (wt_xw X) 101)), some (.int x1), some (.int s.1), none, none, none, none, none] [] := by
  unfold wp_tr_bestExchange_B2 at h
  refine wt_iload_n hE wp_tr_bestExchange_d2 rfl ?_
  refine wt_bipush hE (26 : Int32) wp_tr_bestExchange_d3 wt_cb_26 ?_
  refine wt_icmp_ge hE 28 wp_tr_bestExchange_d5 rfl (fun c1 => ?_) (fun c1 => ?_)
  · have h := wt_ip c1 h
    refine wt_aload_n hE wp_tr_bestExchange_d28 rfl ?_
    refine wt_iconst hE (-1 : Int32) wp_tr_bestExchange_d29 wt_ci_m1 ?_
    refine wt_iconst hE (-1 : Int32) wp_tr_bestExchange_d30 wt_ci_m1 ?_
    obtain ⟨q2, hq2, h⟩ := wt_bi h
    refine wt_callVi hE [.int (-1 : Int32), .int (-1 : Int32)] wt_lm_tr_53 wt_ya_tr_leastOf (wp_tr_leastOf_ok hD hq2) (by omega) (hD 101 (Nat.le_of_ble_eq_true rfl)) wt_L101 rfl rfl rfl (Nat.le_of_ble_eq_true rfl) (Nat.zero_le _) wp_tr_bestExchange_d31 (fun hbq2 => ?_)
    refine wt_istore_n hE [some (.ref (wt_ad (wt_xw X) 101)), some (.int x1), some (.int q2.1), none, none, none, none, none] wp_tr_bestExchange_d34 (by decide) rfl ?_
    refine wt_iconst hE (-1 : Int32) wp_tr_bestExchange_d35 wt_ci_m1 ?_
    refine wt_istore_n hE [some (.ref (wt_ad (wt_xw X) 101)), some (.int x1), some (.int q2.1), some (.int (-1 : Int32)), none, none, none, none] wp_tr_bestExchange_d36 (by decide) rfl ?_
    refine wt_iconst hE (0 : Int32) wp_tr_bestExchange_d37 wt_ci_0 ?_
    refine wt_istore hE [some (.ref (wt_ad (wt_xw X) 101)), some (.int x1), some (.int q2.1), some (.int (-1 : Int32)), some (.int (0 : Int32)), none, none, none] wp_tr_bestExchange_d38 (Nat.le_of_ble_eq_true rfl) rfl ?_
    refine wt_wk [true, false, true, true, true, true, true, true] rfl ?_
    exact wt_it_ind (fun z => wt_V X 0 z.2.2.2 40 [some (.ref (wt_ad (wt_xw X) 101)), none, some (.int z.1), some (.int z.2.1), some (.int z.2.2.1), none, none, none] []) (fun K hK z h => wp_tr_bestExchange_B40_ok hE hR hD hK h) n (q2.1, (-1 : Int32), (0 : Int32), q2.2) h
  · have h := wt_in c1 h
    refine wt_aload_n hE wp_tr_bestExchange_d8 rfl ?_
    refine wt_iload_n hE wp_tr_bestExchange_d9 rfl ?_
    refine wt_iload_n hE wp_tr_bestExchange_d10 rfl ?_
    refine wt_aload_n hE wp_tr_bestExchange_d11 rfl ?_
    refine wt_getr hE (r := 4) wt_lf_tr_9 (hD 101 (Nat.le_of_ble_eq_true rfl)) wt_L101 rfl wp_tr_bestExchange_d12 ?_
    refine wt_iload_n hE wp_tr_bestExchange_d15 rfl ?_
    obtain ⟨q12, hq12, h⟩ := wt_bi h
    refine wt_callVi hE [.int s.1] wt_lm_tr_43 wt_ya_ld_mostThere (wp_ld_mostThere_ok wt_isLead_4 (fun j hj => hD (4 + j) (by omega)) hq12) (by omega) (hD 4 (Nat.le_of_ble_eq_true rfl)) wt_L4 rfl rfl rfl (Nat.le_of_ble_eq_true rfl) (Nat.zero_le _) wp_tr_bestExchange_d16 (fun hbq12 => ?_)
    obtain ⟨q13, hq13, h⟩ := wt_bi h
    refine wt_callVv hE [.int x1, .int s.1, .int q12.1] wt_lm_tr_49 wt_ya_tr_weigh (wp_tr_weigh_ok hD hq13) (by omega) (hD 101 (Nat.le_of_ble_eq_true rfl)) wt_L101 rfl rfl rfl (Nat.le_of_ble_eq_true rfl) (Nat.zero_le _) wp_tr_bestExchange_d19 ?_
    refine wt_iinc hE (s.1 + (1 : Int32)) [some (.ref (wt_ad (wt_xw X) 101)), some (.int x1), some (.int (s.1 + (1 : Int32))), none, none, none, none, none] wp_tr_bestExchange_d22 (by decide) rfl rfl rfl ?_
    refine wt_goto hE 2 wp_tr_bestExchange_d25 rfl ?_
    exact hK2 ((s.1 + (1 : Int32)), q13) h
noncomputable def wp_tr_bestExchange (n : Nat) (x1 : Int32) (σ : wt_St) : Option (Int32 × wt_St) :=
  wt_it (wp_tr_bestExchange_B2 n x1) n ((0 : Int32), σ)
set_option maxRecDepth 100000 in
set_option maxHeartbeats 4000000 in
theorem wp_tr_bestExchange_ok {l : Launch} {w : wt_E} {n : Nat} {x1 : Int32} (hD : ∀ i, i < 108 → wt_dom w i) {σ : wt_St} {q : Int32 × wt_St} (h : wp_tr_bestExchange n x1 σ = some q) : wt_Ctr l w wt_y_tr_bestExchange prog_10_method_2_code 8 (some .int) 6 [.ref (wt_ad w 101), .int x1] σ (some q.1) q.2 := by
  refine wt_ctr wt_pl_tr_bestExchange rfl (Nat.le_of_ble_eq_true rfl) [some (.ref (wt_ad w 101)), some (.int x1), none, none, none, none, none, none] rfl ?_
  intro X hXl hXw hE hR
  subst hXl
  subst hXw
  have hE : wt_Ok X prog_10_method_2_code 8 "WornType$Trade" 6 0 := hE
  unfold wp_tr_bestExchange at h
  refine wt_iconst hE (0 : Int32) wp_tr_bestExchange_d0 wt_ci_0 ?_
  refine wt_istore_n hE [some (.ref (wt_ad (wt_xw X) 101)), some (.int x1), some (.int (0 : Int32)), none, none, none, none, none] wp_tr_bestExchange_d1 (by decide) rfl ?_
  exact wt_it_ind (fun z => wt_V X 0 z.2 2 [some (.ref (wt_ad (wt_xw X) 101)), some (.int x1), some (.int z.1), none, none, none, none, none] []) (fun K hK z h => wp_tr_bestExchange_B2_ok hE hR hD hK h) n ((0 : Int32), σ) h
def wb11m1_prog_1_method_6_code_r0 : List (List Nat) := [42, 180, 0, 12, 180, 0, 152, 172] :: []
set_option maxRecDepth 100000 in
theorem wb11m1_prog_1_method_6_code_c0 : wt_cs prog_1_method_6_code 0 wb11m1_prog_1_method_6_code_r0 := wt_cs_of (by decide +kernel)
theorem wp_ap_fault_d0 : decode prog_1_method_6_code 0 = .ok (.aload_n 0, 1) := wt_op42 wb11m1_prog_1_method_6_code_c0 0 rfl rfl
theorem wp_ap_fault_d1 : decode prog_1_method_6_code 1 = .ok (.getfield 12, 3) := wt_op180 wb11m1_prog_1_method_6_code_c0 1 rfl rfl rfl
theorem wp_ap_fault_d4 : decode prog_1_method_6_code 4 = .ok (.getfield 152, 3) := wt_op180 wb11m1_prog_1_method_6_code_c0 4 rfl rfl rfl
theorem wp_ap_fault_d7 : decode prog_1_method_6_code 7 = .ok (.ireturn, 1) := wt_op172 wb11m1_prog_1_method_6_code_c0 7 rfl rfl
noncomputable def wp_ap_fault (n : Nat) (σ : wt_St) : Option (Int32 × wt_St) :=
  some ((wt_gf σ 1 7), σ)
set_option maxRecDepth 100000 in
set_option maxHeartbeats 4000000 in
theorem wp_ap_fault_ok {l : Launch} {w : wt_E} {n : Nat} (hD : ∀ i, i < 108 → wt_dom w i) {σ : wt_St} {q : Int32 × wt_St} (h : wp_ap_fault n σ = some q) : wt_Ctr l w wt_y_ap_fault prog_1_method_6_code 1 (some .int) 0 [.ref (wt_ad w 0)] σ (some q.1) q.2 := by
  refine wt_ctr wt_pl_ap_fault rfl (Nat.le_of_ble_eq_true rfl) [some (.ref (wt_ad w 0))] rfl ?_
  intro X hXl hXw hE hR
  subst hXl
  subst hXw
  have hE : wt_Ok X prog_1_method_6_code 1 "WornType" 0 0 := hE
  unfold wp_ap_fault at h
  refine wt_aload_n hE wp_ap_fault_d0 rfl ?_
  refine wt_getr hE (r := 1) wt_lf_ap_12 (hD 0 (Nat.le_of_ble_eq_true rfl)) wt_L0 rfl wp_ap_fault_d1 ?_
  refine wt_geti hE wt_lf_ap_152 (hD 1 (Nat.le_of_ble_eq_true rfl)) wt_L1 rfl wp_ap_fault_d4 ?_
  cases h
  exact wt_iret hE hR wp_ap_fault_d7
def wb11m1_prog_7_method_2_code_r1 : List (List Nat) := [4, 96, 181, 0, 22, 132, 2, 248, 167, 255, 221, 177] :: []
def wb11m1_prog_7_method_2_code_r0 : List (List Nat) := [16, 24, 61, 28, 155, 0, 37, 42, 180, 0, 9, 42, 180, 0, 22, 27, 28, 124, 17, 0, 255, 126, 184, 0, 25, 42, 89, 180, 0, 22] :: wb11m1_prog_7_method_2_code_r1
set_option maxRecDepth 100000 in
theorem wb11m1_prog_7_method_2_code_c0 : wt_cs prog_7_method_2_code 0 wb11m1_prog_7_method_2_code_r0 := wt_cs_of (by decide +kernel)
theorem wb11m1_prog_7_method_2_code_c1 : wt_cs prog_7_method_2_code 30 wb11m1_prog_7_method_2_code_r1 := wt_cs_tl (m := 30) wb11m1_prog_7_method_2_code_c0 rfl rfl
theorem wp_tp_push_d0 : decode prog_7_method_2_code 0 = .ok (.bipush 24, 2) := wt_op16 wb11m1_prog_7_method_2_code_c0 0 rfl rfl rfl
theorem wp_tp_push_d2 : decode prog_7_method_2_code 2 = .ok (.istore_n 2, 1) := wt_op61 wb11m1_prog_7_method_2_code_c0 2 rfl rfl
theorem wp_tp_push_d3 : decode prog_7_method_2_code 3 = .ok (.iload_n 2, 1) := wt_op28 wb11m1_prog_7_method_2_code_c0 3 rfl rfl
theorem wp_tp_push_d4 : decode prog_7_method_2_code 4 = .ok (.ifCond .lt 37, 3) := wt_op155 wb11m1_prog_7_method_2_code_c0 4 rfl rfl rfl
theorem wp_tp_push_d7 : decode prog_7_method_2_code 7 = .ok (.aload_n 0, 1) := wt_op42 wb11m1_prog_7_method_2_code_c0 7 rfl rfl
theorem wp_tp_push_d8 : decode prog_7_method_2_code 8 = .ok (.getfield 9, 3) := wt_op180 wb11m1_prog_7_method_2_code_c0 8 rfl rfl rfl
theorem wp_tp_push_d11 : decode prog_7_method_2_code 11 = .ok (.aload_n 0, 1) := wt_op42 wb11m1_prog_7_method_2_code_c0 11 rfl rfl
theorem wp_tp_push_d12 : decode prog_7_method_2_code 12 = .ok (.getfield 22, 3) := wt_op180 wb11m1_prog_7_method_2_code_c0 12 rfl rfl rfl
theorem wp_tp_push_d15 : decode prog_7_method_2_code 15 = .ok (.iload_n 1, 1) := wt_op27 wb11m1_prog_7_method_2_code_c0 15 rfl rfl
theorem wp_tp_push_d16 : decode prog_7_method_2_code 16 = .ok (.iload_n 2, 1) := wt_op28 wb11m1_prog_7_method_2_code_c0 16 rfl rfl
theorem wp_tp_push_d17 : decode prog_7_method_2_code 17 = .ok (.iushr, 1) := wt_op124 wb11m1_prog_7_method_2_code_c0 17 rfl rfl
theorem wp_tp_push_d18 : decode prog_7_method_2_code 18 = .ok (.sipush 255, 3) := wt_op17 wb11m1_prog_7_method_2_code_c0 18 rfl rfl rfl
theorem wp_tp_push_d21 : decode prog_7_method_2_code 21 = .ok (.iand, 1) := wt_op126 wb11m1_prog_7_method_2_code_c0 21 rfl rfl
theorem wp_tp_push_d22 : decode prog_7_method_2_code 22 = .ok (.invokestatic 25, 3) := wt_op184 wb11m1_prog_7_method_2_code_c0 22 rfl rfl rfl
theorem wp_tp_push_d25 : decode prog_7_method_2_code 25 = .ok (.aload_n 0, 1) := wt_op42 wb11m1_prog_7_method_2_code_c0 25 rfl rfl
theorem wp_tp_push_d26 : decode prog_7_method_2_code 26 = .ok (.dup, 1) := wt_op89 wb11m1_prog_7_method_2_code_c0 26 rfl rfl
theorem wp_tp_push_d27 : decode prog_7_method_2_code 27 = .ok (.getfield 22, 3) := wt_op180 wb11m1_prog_7_method_2_code_c0 27 rfl rfl rfl
theorem wp_tp_push_d30 : decode prog_7_method_2_code 30 = .ok (.iconst 1, 1) := wt_op4 wb11m1_prog_7_method_2_code_c1 0 rfl rfl
theorem wp_tp_push_d31 : decode prog_7_method_2_code 31 = .ok (.iadd, 1) := wt_op96 wb11m1_prog_7_method_2_code_c1 1 rfl rfl
theorem wp_tp_push_d32 : decode prog_7_method_2_code 32 = .ok (.putfield 22, 3) := wt_op181 wb11m1_prog_7_method_2_code_c1 2 rfl rfl rfl
theorem wp_tp_push_d35 : decode prog_7_method_2_code 35 = .ok (.iinc 2 (-8), 3) := wt_op132 wb11m1_prog_7_method_2_code_c1 5 rfl rfl rfl
theorem wp_tp_push_d38 : decode prog_7_method_2_code 38 = .ok (.goto (-35), 3) := wt_op167 wb11m1_prog_7_method_2_code_c1 8 rfl rfl rfl
theorem wp_tp_push_d41 : decode prog_7_method_2_code 41 = .ok (.return_, 1) := wt_op177 wb11m1_prog_7_method_2_code_c1 11 rfl rfl
noncomputable def wp_tp_push_B3 (n : Nat) (x1 : Int32) (K3 : Int32 × wt_St → Option (wt_St)) (s : Int32 × wt_St) : Option (wt_St) :=
  if s.1 < 0 then
    some s.2
  else
    (wp_ap_put n 2 (wt_gf s.2 1 2) ((wt_ush x1 s.1) &&& (255 : Int32)) s.2).bind fun q2 =>
    K3 ((s.1 + (-8 : Int32)), (wt_sf q2 1 2 ((wt_gf q2 1 2) + (1 : Int32))))
set_option maxRecDepth 100000 in
set_option maxHeartbeats 4000000 in
theorem wp_tp_push_B3_ok  {x1 : Int32} {X : wt_X} {n : Nat} {res : wt_St} (hE : wt_Ok X prog_7_method_2_code 3 "WornType$Tape" 1 0) (hR : wt_Rt X none none res) (hD : ∀ i, i < 108 → wt_dom (wt_xw X) i)  {K3 : Int32 × wt_St → Option (wt_St)} (hK3 : ∀ s : Int32 × wt_St, K3 s = some res → wt_V X 0 s.2 3 [some (.ref (wt_ad (wt_xw X) 1)), some (.int x1), some (.int s.1)] []) {s : Int32 × wt_St} (h : wp_tp_push_B3 n x1 K3 s = some res) : wt_V X 0 s.2 3 [some (.ref (wt_ad (wt_xw X) 1)), some (.int x1), some (.int s.1)] [] := by
  unfold wp_tp_push_B3 at h
  refine wt_iload_n hE wp_tp_push_d3 rfl ?_
  refine wt_if_lt hE 41 wp_tp_push_d4 rfl (fun c1 => ?_) (fun c1 => ?_)
  · have h := wt_ip c1 h
    cases h
    exact wt_vret hE hR wp_tp_push_d41
  · have h := wt_in c1 h
    refine wt_aload_n hE wp_tp_push_d7 rfl ?_
    refine wt_getr hE (r := 2) wt_lf_tp_9 (hD 1 (Nat.le_of_ble_eq_true rfl)) wt_L1 rfl wp_tp_push_d8 ?_
    refine wt_aload_n hE wp_tp_push_d11 rfl ?_
    refine wt_geti hE wt_lf_tp_22 (hD 1 (Nat.le_of_ble_eq_true rfl)) wt_L1 rfl wp_tp_push_d12 ?_
    refine wt_iload_n hE wp_tp_push_d15 rfl ?_
    refine wt_iload_n hE wp_tp_push_d16 rfl ?_
    refine wt_iushr hE wp_tp_push_d17 ?_
    refine wt_sipush hE (255 : Int32) wp_tp_push_d18 wt_cs_255 ?_
    refine wt_iand hE wp_tp_push_d21 ?_
    obtain ⟨q2, hq2, h⟩ := wt_bi h
    refine wt_callSv hE [.ref (wt_ad (wt_xw X) 2), .int (wt_gf s.2 1 2), .int ((wt_ush x1 s.1) &&& (255 : Int32))] wt_lm_tp_25 wt_ya_ap_put (wp_ap_put_ok (wt_lnE wt_L2) (hD 2 (Nat.le_of_ble_eq_true rfl)) hq2) (by omega) rfl rfl (Nat.le_of_ble_eq_true rfl) (Nat.zero_le _) wp_tp_push_d22 ?_
    refine wt_aload_n hE wp_tp_push_d25 rfl ?_
    refine wt_dup hE wp_tp_push_d26 rfl ?_
    refine wt_geti hE wt_lf_tp_22 (hD 1 (Nat.le_of_ble_eq_true rfl)) wt_L1 rfl wp_tp_push_d27 ?_
    refine wt_iconst hE (1 : Int32) wp_tp_push_d30 wt_ci_1 ?_
    refine wt_iadd hE wp_tp_push_d31 ?_
    refine wt_puti hE wt_lf_tp_22 (hD 1 (Nat.le_of_ble_eq_true rfl)) wt_L1 rfl (fun q hq => by cases hq; rfl) wp_tp_push_d32 ?_
    refine wt_iinc hE (s.1 + (-8 : Int32)) [some (.ref (wt_ad (wt_xw X) 1)), some (.int x1), some (.int (s.1 + (-8 : Int32)))] wp_tp_push_d35 (by decide) rfl rfl rfl ?_
    refine wt_goto hE 3 wp_tp_push_d38 rfl ?_
    exact hK3 ((s.1 + (-8 : Int32)), (wt_sf q2 1 2 ((wt_gf q2 1 2) + (1 : Int32)))) h
noncomputable def wp_tp_push (n : Nat) (x1 : Int32) (σ : wt_St) : Option (wt_St) :=
  wt_it (wp_tp_push_B3 n x1) n ((24 : Int32), σ)
set_option maxRecDepth 100000 in
set_option maxHeartbeats 4000000 in
theorem wp_tp_push_ok {l : Launch} {w : wt_E} {n : Nat} {x1 : Int32} (hD : ∀ i, i < 108 → wt_dom w i) {σ : wt_St} {q : wt_St} (h : wp_tp_push n x1 σ = some q) : wt_Ctr l w wt_y_tp_push prog_7_method_2_code 3 none 1 [.ref (wt_ad w 1), .int x1] σ none q := by
  refine wt_ctr wt_pl_tp_push rfl (Nat.le_of_ble_eq_true rfl) [some (.ref (wt_ad w 1)), some (.int x1), none] rfl ?_
  intro X hXl hXw hE hR
  subst hXl
  subst hXw
  have hE : wt_Ok X prog_7_method_2_code 3 "WornType$Tape" 1 0 := hE
  unfold wp_tp_push at h
  refine wt_bipush hE (24 : Int32) wp_tp_push_d0 wt_cb_24 ?_
  refine wt_istore_n hE [some (.ref (wt_ad (wt_xw X) 1)), some (.int x1), some (.int (24 : Int32))] wp_tp_push_d2 (by decide) rfl ?_
  exact wt_it_ind (fun z => wt_V X 0 z.2 3 [some (.ref (wt_ad (wt_xw X) 1)), some (.int x1), some (.int z.1)] []) (fun K hK z h => wp_tp_push_B3_ok hE hR hD hK h) n ((24 : Int32), σ) h
def wb11m1_prog_1_method_2_code_r2 : List (List Nat) := [42, 180, 0, 12, 180, 0, 105, 172] :: []
def wb11m1_prog_1_method_2_code_r1 : List (List Nat) := [182, 0, 108, 42, 180, 0, 12, 29, 182, 0, 108, 42, 180, 0, 12, 21, 4, 182, 0, 108, 42, 180, 0, 12, 21, 5, 182, 0, 108] :: wb11m1_prog_1_method_2_code_r2
def wb11m1_prog_1_method_2_code_r0 : List (List Nat) := [42, 180, 0, 12, 180, 0, 105, 17, 1, 224, 164, 0, 5, 2, 172, 42, 180, 0, 12, 27, 182, 0, 108, 42, 180, 0, 12, 28] :: wb11m1_prog_1_method_2_code_r1
set_option maxRecDepth 100000 in
theorem wb11m1_prog_1_method_2_code_c0 : wt_cs prog_1_method_2_code 0 wb11m1_prog_1_method_2_code_r0 := wt_cs_of (by decide +kernel)
theorem wb11m1_prog_1_method_2_code_c1 : wt_cs prog_1_method_2_code 28 wb11m1_prog_1_method_2_code_r1 := wt_cs_tl (m := 28) wb11m1_prog_1_method_2_code_c0 rfl rfl
theorem wb11m1_prog_1_method_2_code_c2 : wt_cs prog_1_method_2_code 57 wb11m1_prog_1_method_2_code_r2 := wt_cs_tl (m := 29) wb11m1_prog_1_method_2_code_c1 rfl rfl
theorem wp_ap_feed_d0 : decode prog_1_method_2_code 0 = .ok (.aload_n 0, 1) := wt_op42 wb11m1_prog_1_method_2_code_c0 0 rfl rfl
theorem wp_ap_feed_d1 : decode prog_1_method_2_code 1 = .ok (.getfield 12, 3) := wt_op180 wb11m1_prog_1_method_2_code_c0 1 rfl rfl rfl
theorem wp_ap_feed_d4 : decode prog_1_method_2_code 4 = .ok (.getfield 105, 3) := wt_op180 wb11m1_prog_1_method_2_code_c0 4 rfl rfl rfl
theorem wp_ap_feed_d7 : decode prog_1_method_2_code 7 = .ok (.sipush 480, 3) := wt_op17 wb11m1_prog_1_method_2_code_c0 7 rfl rfl rfl
theorem wp_ap_feed_d10 : decode prog_1_method_2_code 10 = .ok (.if_icmp .le 5, 3) := wt_op164 wb11m1_prog_1_method_2_code_c0 10 rfl rfl rfl
theorem wp_ap_feed_d13 : decode prog_1_method_2_code 13 = .ok (.iconst (-1), 1) := wt_op2 wb11m1_prog_1_method_2_code_c0 13 rfl rfl
theorem wp_ap_feed_d14 : decode prog_1_method_2_code 14 = .ok (.ireturn, 1) := wt_op172 wb11m1_prog_1_method_2_code_c0 14 rfl rfl
theorem wp_ap_feed_d15 : decode prog_1_method_2_code 15 = .ok (.aload_n 0, 1) := wt_op42 wb11m1_prog_1_method_2_code_c0 15 rfl rfl
theorem wp_ap_feed_d16 : decode prog_1_method_2_code 16 = .ok (.getfield 12, 3) := wt_op180 wb11m1_prog_1_method_2_code_c0 16 rfl rfl rfl
theorem wp_ap_feed_d19 : decode prog_1_method_2_code 19 = .ok (.iload_n 1, 1) := wt_op27 wb11m1_prog_1_method_2_code_c0 19 rfl rfl
theorem wp_ap_feed_d20 : decode prog_1_method_2_code 20 = .ok (.invokevirtual 108, 3) := wt_op182 wb11m1_prog_1_method_2_code_c0 20 rfl rfl rfl
theorem wp_ap_feed_d23 : decode prog_1_method_2_code 23 = .ok (.aload_n 0, 1) := wt_op42 wb11m1_prog_1_method_2_code_c0 23 rfl rfl
theorem wp_ap_feed_d24 : decode prog_1_method_2_code 24 = .ok (.getfield 12, 3) := wt_op180 wb11m1_prog_1_method_2_code_c0 24 rfl rfl rfl
theorem wp_ap_feed_d27 : decode prog_1_method_2_code 27 = .ok (.iload_n 2, 1) := wt_op28 wb11m1_prog_1_method_2_code_c0 27 rfl rfl
theorem wp_ap_feed_d28 : decode prog_1_method_2_code 28 = .ok (.invokevirtual 108, 3) := wt_op182 wb11m1_prog_1_method_2_code_c1 0 rfl rfl rfl
theorem wp_ap_feed_d31 : decode prog_1_method_2_code 31 = .ok (.aload_n 0, 1) := wt_op42 wb11m1_prog_1_method_2_code_c1 3 rfl rfl
theorem wp_ap_feed_d32 : decode prog_1_method_2_code 32 = .ok (.getfield 12, 3) := wt_op180 wb11m1_prog_1_method_2_code_c1 4 rfl rfl rfl
theorem wp_ap_feed_d35 : decode prog_1_method_2_code 35 = .ok (.iload_n 3, 1) := wt_op29 wb11m1_prog_1_method_2_code_c1 7 rfl rfl
theorem wp_ap_feed_d36 : decode prog_1_method_2_code 36 = .ok (.invokevirtual 108, 3) := wt_op182 wb11m1_prog_1_method_2_code_c1 8 rfl rfl rfl
theorem wp_ap_feed_d39 : decode prog_1_method_2_code 39 = .ok (.aload_n 0, 1) := wt_op42 wb11m1_prog_1_method_2_code_c1 11 rfl rfl
theorem wp_ap_feed_d40 : decode prog_1_method_2_code 40 = .ok (.getfield 12, 3) := wt_op180 wb11m1_prog_1_method_2_code_c1 12 rfl rfl rfl
theorem wp_ap_feed_d43 : decode prog_1_method_2_code 43 = .ok (.iload 4, 2) := wt_op21 wb11m1_prog_1_method_2_code_c1 15 rfl rfl
theorem wp_ap_feed_d45 : decode prog_1_method_2_code 45 = .ok (.invokevirtual 108, 3) := wt_op182 wb11m1_prog_1_method_2_code_c1 17 rfl rfl rfl
theorem wp_ap_feed_d48 : decode prog_1_method_2_code 48 = .ok (.aload_n 0, 1) := wt_op42 wb11m1_prog_1_method_2_code_c1 20 rfl rfl
theorem wp_ap_feed_d49 : decode prog_1_method_2_code 49 = .ok (.getfield 12, 3) := wt_op180 wb11m1_prog_1_method_2_code_c1 21 rfl rfl rfl
theorem wp_ap_feed_d52 : decode prog_1_method_2_code 52 = .ok (.iload 5, 2) := wt_op21 wb11m1_prog_1_method_2_code_c1 24 rfl rfl
theorem wp_ap_feed_d54 : decode prog_1_method_2_code 54 = .ok (.invokevirtual 108, 3) := wt_op182 wb11m1_prog_1_method_2_code_c1 26 rfl rfl rfl
theorem wp_ap_feed_d57 : decode prog_1_method_2_code 57 = .ok (.aload_n 0, 1) := wt_op42 wb11m1_prog_1_method_2_code_c2 0 rfl rfl
theorem wp_ap_feed_d58 : decode prog_1_method_2_code 58 = .ok (.getfield 12, 3) := wt_op180 wb11m1_prog_1_method_2_code_c2 1 rfl rfl rfl
theorem wp_ap_feed_d61 : decode prog_1_method_2_code 61 = .ok (.getfield 105, 3) := wt_op180 wb11m1_prog_1_method_2_code_c2 4 rfl rfl rfl
theorem wp_ap_feed_d64 : decode prog_1_method_2_code 64 = .ok (.ireturn, 1) := wt_op172 wb11m1_prog_1_method_2_code_c2 7 rfl rfl
noncomputable def wp_ap_feed (n : Nat) (x1 : Int32) (x2 : Int32) (x3 : Int32) (x4 : Int32) (x5 : Int32) (σ : wt_St) : Option (Int32 × wt_St) :=
  if (wt_gf σ 1 2) ≤ (480 : Int32) then
    (wp_tp_push n x1 σ).bind fun q2 =>
    (wp_tp_push n x2 q2).bind fun q3 =>
    (wp_tp_push n x3 q3).bind fun q4 =>
    (wp_tp_push n x4 q4).bind fun q5 =>
    (wp_tp_push n x5 q5).bind fun q6 =>
    some ((wt_gf q6 1 2), q6)
  else
    some ((-1 : Int32), σ)
set_option maxRecDepth 100000 in
set_option maxHeartbeats 4000000 in
theorem wp_ap_feed_ok {l : Launch} {w : wt_E} {n : Nat} {x1 : Int32} {x2 : Int32} {x3 : Int32} {x4 : Int32} {x5 : Int32} (hD : ∀ i, i < 108 → wt_dom w i) {σ : wt_St} {q : Int32 × wt_St} (h : wp_ap_feed n x1 x2 x3 x4 x5 σ = some q) : wt_Ctr l w wt_y_ap_feed prog_1_method_2_code 6 (some .int) 2 [.ref (wt_ad w 0), .int x1, .int x2, .int x3, .int x4, .int x5] σ (some q.1) q.2 := by
  refine wt_ctr wt_pl_ap_feed rfl (Nat.le_of_ble_eq_true rfl) [some (.ref (wt_ad w 0)), some (.int x1), some (.int x2), some (.int x3), some (.int x4), some (.int x5)] rfl ?_
  intro X hXl hXw hE hR
  subst hXl
  subst hXw
  have hE : wt_Ok X prog_1_method_2_code 6 "WornType" 2 0 := hE
  unfold wp_ap_feed at h
  refine wt_aload_n hE wp_ap_feed_d0 rfl ?_
  refine wt_getr hE (r := 1) wt_lf_ap_12 (hD 0 (Nat.le_of_ble_eq_true rfl)) wt_L0 rfl wp_ap_feed_d1 ?_
  refine wt_geti hE wt_lf_ap_105 (hD 1 (Nat.le_of_ble_eq_true rfl)) wt_L1 rfl wp_ap_feed_d4 ?_
  refine wt_sipush hE (480 : Int32) wp_ap_feed_d7 wt_cs_480 ?_
  refine wt_icmp_le hE 15 wp_ap_feed_d10 rfl (fun c1 => ?_) (fun c1 => ?_)
  · have h := wt_ip c1 h
    refine wt_aload_n hE wp_ap_feed_d15 rfl ?_
    refine wt_getr hE (r := 1) wt_lf_ap_12 (hD 0 (Nat.le_of_ble_eq_true rfl)) wt_L0 rfl wp_ap_feed_d16 ?_
    refine wt_iload_n hE wp_ap_feed_d19 rfl ?_
    obtain ⟨q2, hq2, h⟩ := wt_bi h
    refine wt_callVv hE [.int x1] wt_lm_ap_108 wt_ya_tp_push (wp_tp_push_ok hD hq2) (by omega) (hD 1 (Nat.le_of_ble_eq_true rfl)) wt_L1 rfl rfl rfl (Nat.le_of_ble_eq_true rfl) (Nat.zero_le _) wp_ap_feed_d20 ?_
    refine wt_aload_n hE wp_ap_feed_d23 rfl ?_
    refine wt_getr hE (r := 1) wt_lf_ap_12 (hD 0 (Nat.le_of_ble_eq_true rfl)) wt_L0 rfl wp_ap_feed_d24 ?_
    refine wt_iload_n hE wp_ap_feed_d27 rfl ?_
    obtain ⟨q3, hq3, h⟩ := wt_bi h
    refine wt_callVv hE [.int x2] wt_lm_ap_108 wt_ya_tp_push (wp_tp_push_ok hD hq3) (by omega) (hD 1 (Nat.le_of_ble_eq_true rfl)) wt_L1 rfl rfl rfl (Nat.le_of_ble_eq_true rfl) (Nat.zero_le _) wp_ap_feed_d28 ?_
    refine wt_aload_n hE wp_ap_feed_d31 rfl ?_
    refine wt_getr hE (r := 1) wt_lf_ap_12 (hD 0 (Nat.le_of_ble_eq_true rfl)) wt_L0 rfl wp_ap_feed_d32 ?_
    refine wt_iload_n hE wp_ap_feed_d35 rfl ?_
    obtain ⟨q4, hq4, h⟩ := wt_bi h
    refine wt_callVv hE [.int x3] wt_lm_ap_108 wt_ya_tp_push (wp_tp_push_ok hD hq4) (by omega) (hD 1 (Nat.le_of_ble_eq_true rfl)) wt_L1 rfl rfl rfl (Nat.le_of_ble_eq_true rfl) (Nat.zero_le _) wp_ap_feed_d36 ?_
    refine wt_aload_n hE wp_ap_feed_d39 rfl ?_
    refine wt_getr hE (r := 1) wt_lf_ap_12 (hD 0 (Nat.le_of_ble_eq_true rfl)) wt_L0 rfl wp_ap_feed_d40 ?_
    refine wt_iload hE wp_ap_feed_d43 rfl ?_
    obtain ⟨q5, hq5, h⟩ := wt_bi h
    refine wt_callVv hE [.int x4] wt_lm_ap_108 wt_ya_tp_push (wp_tp_push_ok hD hq5) (by omega) (hD 1 (Nat.le_of_ble_eq_true rfl)) wt_L1 rfl rfl rfl (Nat.le_of_ble_eq_true rfl) (Nat.zero_le _) wp_ap_feed_d45 ?_
    refine wt_aload_n hE wp_ap_feed_d48 rfl ?_
    refine wt_getr hE (r := 1) wt_lf_ap_12 (hD 0 (Nat.le_of_ble_eq_true rfl)) wt_L0 rfl wp_ap_feed_d49 ?_
    refine wt_iload hE wp_ap_feed_d52 rfl ?_
    obtain ⟨q6, hq6, h⟩ := wt_bi h
    refine wt_callVv hE [.int x5] wt_lm_ap_108 wt_ya_tp_push (wp_tp_push_ok hD hq6) (by omega) (hD 1 (Nat.le_of_ble_eq_true rfl)) wt_L1 rfl rfl rfl (Nat.le_of_ble_eq_true rfl) (Nat.zero_le _) wp_ap_feed_d54 ?_
    refine wt_aload_n hE wp_ap_feed_d57 rfl ?_
    refine wt_getr hE (r := 1) wt_lf_ap_12 (hD 0 (Nat.le_of_ble_eq_true rfl)) wt_L0 rfl wp_ap_feed_d58 ?_
    refine wt_geti hE wt_lf_ap_105 (hD 1 (Nat.le_of_ble_eq_true rfl)) wt_L1 rfl wp_ap_feed_d61 ?_
    cases h
    exact wt_iret hE hR wp_ap_feed_d64
  · have h := wt_in c1 h
    refine wt_iconst hE (-1 : Int32) wp_ap_feed_d13 wt_ci_m1 ?_
    cases h
    exact wt_iret hE hR wp_ap_feed_d14
def wb11m1_prog_2_method_4_code_r0 : List (List Nat) := [42, 180, 0, 30, 27, 184, 0, 44, 28, 122, 4, 126, 154, 0, 7, 4, 167, 0, 4, 3, 172] :: []
set_option maxRecDepth 100000 in
theorem wb11m1_prog_2_method_4_code_c0 : wt_cs prog_2_method_4_code 0 wb11m1_prog_2_method_4_code_r0 := wt_cs_of (by decide +kernel)
theorem wp_ld_mayFollow_d0 : decode prog_2_method_4_code 0 = .ok (.aload_n 0, 1) := wt_op42 wb11m1_prog_2_method_4_code_c0 0 rfl rfl
theorem wp_ld_mayFollow_d1 : decode prog_2_method_4_code 1 = .ok (.getfield 30, 3) := wt_op180 wb11m1_prog_2_method_4_code_c0 1 rfl rfl rfl
theorem wp_ld_mayFollow_d4 : decode prog_2_method_4_code 4 = .ok (.iload_n 1, 1) := wt_op27 wb11m1_prog_2_method_4_code_c0 4 rfl rfl
theorem wp_ld_mayFollow_d5 : decode prog_2_method_4_code 5 = .ok (.invokestatic 44, 3) := wt_op184 wb11m1_prog_2_method_4_code_c0 5 rfl rfl rfl
theorem wp_ld_mayFollow_d8 : decode prog_2_method_4_code 8 = .ok (.iload_n 2, 1) := wt_op28 wb11m1_prog_2_method_4_code_c0 8 rfl rfl
theorem wp_ld_mayFollow_d9 : decode prog_2_method_4_code 9 = .ok (.ishr, 1) := wt_op122 wb11m1_prog_2_method_4_code_c0 9 rfl rfl
theorem wp_ld_mayFollow_d10 : decode prog_2_method_4_code 10 = .ok (.iconst 1, 1) := wt_op4 wb11m1_prog_2_method_4_code_c0 10 rfl rfl
theorem wp_ld_mayFollow_d11 : decode prog_2_method_4_code 11 = .ok (.iand, 1) := wt_op126 wb11m1_prog_2_method_4_code_c0 11 rfl rfl
theorem wp_ld_mayFollow_d12 : decode prog_2_method_4_code 12 = .ok (.ifCond .ne 7, 3) := wt_op154 wb11m1_prog_2_method_4_code_c0 12 rfl rfl rfl
theorem wp_ld_mayFollow_d15 : decode prog_2_method_4_code 15 = .ok (.iconst 1, 1) := wt_op4 wb11m1_prog_2_method_4_code_c0 15 rfl rfl
theorem wp_ld_mayFollow_d16 : decode prog_2_method_4_code 16 = .ok (.goto 4, 3) := wt_op167 wb11m1_prog_2_method_4_code_c0 16 rfl rfl rfl
theorem wp_ld_mayFollow_d19 : decode prog_2_method_4_code 19 = .ok (.iconst 0, 1) := wt_op3 wb11m1_prog_2_method_4_code_c0 19 rfl rfl
theorem wp_ld_mayFollow_d20 : decode prog_2_method_4_code 20 = .ok (.ireturn, 1) := wt_op172 wb11m1_prog_2_method_4_code_c0 20 rfl rfl
noncomputable def wp_ld_mayFollow (n : Nat) (t0 : Nat) (x1 : Int32) (x2 : Int32) (σ : wt_St) : Option (Int32 × wt_St) :=
  (wp_ap_look n (t0 + 7) x1 σ).bind fun q1 =>
  if ((q1.1 >>> (x2 &&& 31)) &&& (1 : Int32)) = 0 then
    some ((1 : Int32), q1.2)
  else
    some ((0 : Int32), q1.2)
set_option maxRecDepth 100000 in
set_option maxHeartbeats 4000000 in
theorem wp_ld_mayFollow_ok {l : Launch} {w : wt_E} {n : Nat} {t0 : Nat} {x1 : Int32} {x2 : Int32} (hI_t0 : wt_isLead t0) (hT_t0 : ∀ j, j < 8 → wt_dom w (t0 + j)) {σ : wt_St} {q : Int32 × wt_St} (h : wp_ld_mayFollow n t0 x1 x2 σ = some q) : wt_Ctr l w wt_y_ld_mayFollow prog_2_method_4_code 3 (some .boolean) 1 [.ref (wt_ad w t0), .int x1, .int x2] σ (some q.1) q.2 := by
  refine wt_ctr wt_pl_ld_mayFollow rfl (Nat.le_of_ble_eq_true rfl) [some (.ref (wt_ad w t0)), some (.int x1), some (.int x2)] rfl ?_
  intro X hXl hXw hE hR
  subst hXl
  subst hXw
  have hE : wt_Ok X prog_2_method_4_code 3 "WornType$Lead" 1 0 := hE
  unfold wp_ld_mayFollow at h
  refine wt_aload_n hE wp_ld_mayFollow_d0 rfl ?_
  refine wt_getr hE (r := (t0 + 7)) wt_lf_ld_30 (hT_t0 0 (Nat.le_of_ble_eq_true rfl)) (hI_t0.1) rfl wp_ld_mayFollow_d1 ?_
  refine wt_iload_n hE wp_ld_mayFollow_d4 rfl ?_
  obtain ⟨q1, hq1, h⟩ := wt_bi h
  refine wt_callSi hE [.ref (wt_ad (wt_xw X) ((t0 + 7))), .int x1] wt_lm_ld_44 wt_ya_ap_look (wp_ap_look_ok (wt_lnE (wt_isLead_L7 hI_t0)) (hT_t0 7 (Nat.le_of_ble_eq_true rfl)) hq1) (by omega) rfl rfl (Nat.le_of_ble_eq_true rfl) (Nat.zero_le _) wp_ld_mayFollow_d5 (fun hbq1 => ?_)
  refine wt_iload_n hE wp_ld_mayFollow_d8 rfl ?_
  refine wt_ishr hE wp_ld_mayFollow_d9 ?_
  refine wt_iconst hE (1 : Int32) wp_ld_mayFollow_d10 wt_ci_1 ?_
  refine wt_iand hE wp_ld_mayFollow_d11 ?_
  refine wt_if_ne hE 19 wp_ld_mayFollow_d12 rfl (fun c2 => ?_) (fun c2 => ?_)
  · have h := wt_in c2 h
    refine wt_iconst hE (0 : Int32) wp_ld_mayFollow_d19 wt_ci_0 ?_
    cases h
    exact wt_zret hE (by decide) hR wp_ld_mayFollow_d20
  · have h := wt_ip c2 h
    refine wt_iconst hE (1 : Int32) wp_ld_mayFollow_d15 wt_ci_1 ?_
    refine wt_goto hE 20 wp_ld_mayFollow_d16 rfl ?_
    cases h
    exact wt_zret hE (by decide) hR wp_ld_mayFollow_d20
def wb11m1_prog_4_method_10_code_r1 : List (List Nat) := [184, 0, 53, 182, 0, 130, 153, 0, 7, 4, 167, 0, 4, 3, 172] :: []
def wb11m1_prog_4_method_10_code_r0 : List (List Nat) := [27, 2, 159, 0, 35, 42, 180, 0, 9, 42, 180, 0, 15, 180, 0, 127, 27, 184, 0, 53, 42, 180, 0, 15, 180, 0, 127, 28] :: wb11m1_prog_4_method_10_code_r1
set_option maxRecDepth 100000 in
theorem wb11m1_prog_4_method_10_code_c0 : wt_cs prog_4_method_10_code 0 wb11m1_prog_4_method_10_code_r0 := wt_cs_of (by decide +kernel)
theorem wb11m1_prog_4_method_10_code_c1 : wt_cs prog_4_method_10_code 28 wb11m1_prog_4_method_10_code_r1 := wt_cs_tl (m := 28) wb11m1_prog_4_method_10_code_c0 rfl rfl
theorem wp_rw_mayFollow_d0 : decode prog_4_method_10_code 0 = .ok (.iload_n 1, 1) := wt_op27 wb11m1_prog_4_method_10_code_c0 0 rfl rfl
theorem wp_rw_mayFollow_d1 : decode prog_4_method_10_code 1 = .ok (.iconst (-1), 1) := wt_op2 wb11m1_prog_4_method_10_code_c0 1 rfl rfl
theorem wp_rw_mayFollow_d2 : decode prog_4_method_10_code 2 = .ok (.if_icmp .eq 35, 3) := wt_op159 wb11m1_prog_4_method_10_code_c0 2 rfl rfl rfl
theorem wp_rw_mayFollow_d5 : decode prog_4_method_10_code 5 = .ok (.aload_n 0, 1) := wt_op42 wb11m1_prog_4_method_10_code_c0 5 rfl rfl
theorem wp_rw_mayFollow_d6 : decode prog_4_method_10_code 6 = .ok (.getfield 9, 3) := wt_op180 wb11m1_prog_4_method_10_code_c0 6 rfl rfl rfl
theorem wp_rw_mayFollow_d9 : decode prog_4_method_10_code 9 = .ok (.aload_n 0, 1) := wt_op42 wb11m1_prog_4_method_10_code_c0 9 rfl rfl
theorem wp_rw_mayFollow_d10 : decode prog_4_method_10_code 10 = .ok (.getfield 15, 3) := wt_op180 wb11m1_prog_4_method_10_code_c0 10 rfl rfl rfl
theorem wp_rw_mayFollow_d13 : decode prog_4_method_10_code 13 = .ok (.getfield 127, 3) := wt_op180 wb11m1_prog_4_method_10_code_c0 13 rfl rfl rfl
theorem wp_rw_mayFollow_d16 : decode prog_4_method_10_code 16 = .ok (.iload_n 1, 1) := wt_op27 wb11m1_prog_4_method_10_code_c0 16 rfl rfl
theorem wp_rw_mayFollow_d17 : decode prog_4_method_10_code 17 = .ok (.invokestatic 53, 3) := wt_op184 wb11m1_prog_4_method_10_code_c0 17 rfl rfl rfl
theorem wp_rw_mayFollow_d20 : decode prog_4_method_10_code 20 = .ok (.aload_n 0, 1) := wt_op42 wb11m1_prog_4_method_10_code_c0 20 rfl rfl
theorem wp_rw_mayFollow_d21 : decode prog_4_method_10_code 21 = .ok (.getfield 15, 3) := wt_op180 wb11m1_prog_4_method_10_code_c0 21 rfl rfl rfl
theorem wp_rw_mayFollow_d24 : decode prog_4_method_10_code 24 = .ok (.getfield 127, 3) := wt_op180 wb11m1_prog_4_method_10_code_c0 24 rfl rfl rfl
theorem wp_rw_mayFollow_d27 : decode prog_4_method_10_code 27 = .ok (.iload_n 2, 1) := wt_op28 wb11m1_prog_4_method_10_code_c0 27 rfl rfl
theorem wp_rw_mayFollow_d28 : decode prog_4_method_10_code 28 = .ok (.invokestatic 53, 3) := wt_op184 wb11m1_prog_4_method_10_code_c1 0 rfl rfl rfl
theorem wp_rw_mayFollow_d31 : decode prog_4_method_10_code 31 = .ok (.invokevirtual 130, 3) := wt_op182 wb11m1_prog_4_method_10_code_c1 3 rfl rfl rfl
theorem wp_rw_mayFollow_d34 : decode prog_4_method_10_code 34 = .ok (.ifCond .eq 7, 3) := wt_op153 wb11m1_prog_4_method_10_code_c1 6 rfl rfl rfl
theorem wp_rw_mayFollow_d37 : decode prog_4_method_10_code 37 = .ok (.iconst 1, 1) := wt_op4 wb11m1_prog_4_method_10_code_c1 9 rfl rfl
theorem wp_rw_mayFollow_d38 : decode prog_4_method_10_code 38 = .ok (.goto 4, 3) := wt_op167 wb11m1_prog_4_method_10_code_c1 10 rfl rfl rfl
theorem wp_rw_mayFollow_d41 : decode prog_4_method_10_code 41 = .ok (.iconst 0, 1) := wt_op3 wb11m1_prog_4_method_10_code_c1 13 rfl rfl
theorem wp_rw_mayFollow_d42 : decode prog_4_method_10_code 42 = .ok (.ireturn, 1) := wt_op172 wb11m1_prog_4_method_10_code_c1 14 rfl rfl
noncomputable def wp_rw_mayFollow (n : Nat) (x1 : Int32) (x2 : Int32) (σ : wt_St) : Option (Int32 × wt_St) :=
  if x1 = (-1 : Int32) then
    some ((1 : Int32), σ)
  else
    (wp_ap_look n 23 x1 σ).bind fun q2 =>
    (wp_ap_look n 23 x2 q2.2).bind fun q3 =>
    (wp_ld_mayFollow n 4 q2.1 q3.1 q3.2).bind fun q4 =>
    if q4.1 = 0 then
      some ((0 : Int32), q4.2)
    else
      some ((1 : Int32), q4.2)
set_option maxRecDepth 100000 in
set_option maxHeartbeats 4000000 in
theorem wp_rw_mayFollow_ok {l : Launch} {w : wt_E} {n : Nat} {x1 : Int32} {x2 : Int32} (hD : ∀ i, i < 108 → wt_dom w i) {σ : wt_St} {q : Int32 × wt_St} (h : wp_rw_mayFollow n x1 x2 σ = some q) : wt_Ctr l w wt_y_rw_mayFollow prog_4_method_10_code 3 (some .boolean) 2 [.ref (wt_ad w 81), .int x1, .int x2] σ (some q.1) q.2 := by
  refine wt_ctr wt_pl_rw_mayFollow rfl (Nat.le_of_ble_eq_true rfl) [some (.ref (wt_ad w 81)), some (.int x1), some (.int x2)] rfl ?_
  intro X hXl hXw hE hR
  subst hXl
  subst hXw
  have hE : wt_Ok X prog_4_method_10_code 3 "WornType$Rows" 2 0 := hE
  unfold wp_rw_mayFollow at h
  refine wt_iload_n hE wp_rw_mayFollow_d0 rfl ?_
  refine wt_iconst hE (-1 : Int32) wp_rw_mayFollow_d1 wt_ci_m1 ?_
  refine wt_icmp_eq hE 37 wp_rw_mayFollow_d2 rfl (fun c1 => ?_) (fun c1 => ?_)
  · have h := wt_ip c1 h
    refine wt_iconst hE (1 : Int32) wp_rw_mayFollow_d37 wt_ci_1 ?_
    refine wt_goto hE 42 wp_rw_mayFollow_d38 rfl ?_
    cases h
    exact wt_zret hE (by decide) hR wp_rw_mayFollow_d42
  · have h := wt_in c1 h
    refine wt_aload_n hE wp_rw_mayFollow_d5 rfl ?_
    refine wt_getr hE (r := 4) wt_lf_rw_9 (hD 81 (Nat.le_of_ble_eq_true rfl)) wt_L81 rfl wp_rw_mayFollow_d6 ?_
    refine wt_aload_n hE wp_rw_mayFollow_d9 rfl ?_
    refine wt_getr hE (r := 20) wt_lf_rw_15 (hD 81 (Nat.le_of_ble_eq_true rfl)) wt_L81 rfl wp_rw_mayFollow_d10 ?_
    refine wt_getr hE (r := 23) wt_lf_rw_127 (hD 20 (Nat.le_of_ble_eq_true rfl)) wt_L20 rfl wp_rw_mayFollow_d13 ?_
    refine wt_iload_n hE wp_rw_mayFollow_d16 rfl ?_
    obtain ⟨q2, hq2, h⟩ := wt_bi h
    refine wt_callSi hE [.ref (wt_ad (wt_xw X) 23), .int x1] wt_lm_rw_53 wt_ya_ap_look (wp_ap_look_ok (wt_lnE wt_L23) (hD 23 (Nat.le_of_ble_eq_true rfl)) hq2) (by omega) rfl rfl (Nat.le_of_ble_eq_true rfl) (Nat.zero_le _) wp_rw_mayFollow_d17 (fun hbq2 => ?_)
    refine wt_aload_n hE wp_rw_mayFollow_d20 rfl ?_
    refine wt_getr hE (r := 20) wt_lf_rw_15 (hD 81 (Nat.le_of_ble_eq_true rfl)) wt_L81 rfl wp_rw_mayFollow_d21 ?_
    refine wt_getr hE (r := 23) wt_lf_rw_127 (hD 20 (Nat.le_of_ble_eq_true rfl)) wt_L20 rfl wp_rw_mayFollow_d24 ?_
    refine wt_iload_n hE wp_rw_mayFollow_d27 rfl ?_
    obtain ⟨q3, hq3, h⟩ := wt_bi h
    refine wt_callSi hE [.ref (wt_ad (wt_xw X) 23), .int x2] wt_lm_rw_53 wt_ya_ap_look (wp_ap_look_ok (wt_lnE wt_L23) (hD 23 (Nat.le_of_ble_eq_true rfl)) hq3) (by omega) rfl rfl (Nat.le_of_ble_eq_true rfl) (Nat.zero_le _) wp_rw_mayFollow_d28 (fun hbq3 => ?_)
    obtain ⟨q4, hq4, h⟩ := wt_bi h
    refine wt_callVi hE [.int q2.1, .int q3.1] wt_lm_rw_130 wt_ya_ld_mayFollow (wp_ld_mayFollow_ok wt_isLead_4 (fun j hj => hD (4 + j) (by omega)) hq4) (by omega) (hD 4 (Nat.le_of_ble_eq_true rfl)) wt_L4 rfl rfl rfl (Nat.le_of_ble_eq_true rfl) (Nat.zero_le _) wp_rw_mayFollow_d31 (fun hbq4 => ?_)
    refine wt_if_eq hE 41 wp_rw_mayFollow_d34 rfl (fun c5 => ?_) (fun c5 => ?_)
    · have h := wt_ip c5 h
      refine wt_iconst hE (0 : Int32) wp_rw_mayFollow_d41 wt_ci_0 ?_
      cases h
      exact wt_zret hE (by decide) hR wp_rw_mayFollow_d42
    · have h := wt_in c5 h
      refine wt_iconst hE (1 : Int32) wp_rw_mayFollow_d37 wt_ci_1 ?_
      refine wt_goto hE 42 wp_rw_mayFollow_d38 rfl ?_
      cases h
      exact wt_zret hE (by decide) hR wp_rw_mayFollow_d42
def wb11m1_prog_4_method_2_code_r1 : List (List Nat) := [180, 0, 15, 27, 29, 182, 0, 62, 184, 0, 53, 96, 61, 132, 3, 1, 167, 255, 216, 28, 172] :: []
def wb11m1_prog_4_method_2_code_r0 : List (List Nat) := [3, 61, 3, 62, 29, 42, 180, 0, 15, 180, 0, 48, 27, 184, 0, 53, 162, 0, 31, 28, 42, 180, 0, 9, 180, 0, 57, 42] :: wb11m1_prog_4_method_2_code_r1
set_option maxRecDepth 100000 in
theorem wb11m1_prog_4_method_2_code_c0 : wt_cs prog_4_method_2_code 0 wb11m1_prog_4_method_2_code_r0 := wt_cs_of (by decide +kernel)
theorem wb11m1_prog_4_method_2_code_c1 : wt_cs prog_4_method_2_code 28 wb11m1_prog_4_method_2_code_r1 := wt_cs_tl (m := 28) wb11m1_prog_4_method_2_code_c0 rfl rfl
theorem wp_rw_priceOf_d0 : decode prog_4_method_2_code 0 = .ok (.iconst 0, 1) := wt_op3 wb11m1_prog_4_method_2_code_c0 0 rfl rfl
theorem wp_rw_priceOf_d1 : decode prog_4_method_2_code 1 = .ok (.istore_n 2, 1) := wt_op61 wb11m1_prog_4_method_2_code_c0 1 rfl rfl
theorem wp_rw_priceOf_d2 : decode prog_4_method_2_code 2 = .ok (.iconst 0, 1) := wt_op3 wb11m1_prog_4_method_2_code_c0 2 rfl rfl
theorem wp_rw_priceOf_d3 : decode prog_4_method_2_code 3 = .ok (.istore_n 3, 1) := wt_op62 wb11m1_prog_4_method_2_code_c0 3 rfl rfl
theorem wp_rw_priceOf_d4 : decode prog_4_method_2_code 4 = .ok (.iload_n 3, 1) := wt_op29 wb11m1_prog_4_method_2_code_c0 4 rfl rfl
theorem wp_rw_priceOf_d5 : decode prog_4_method_2_code 5 = .ok (.aload_n 0, 1) := wt_op42 wb11m1_prog_4_method_2_code_c0 5 rfl rfl
theorem wp_rw_priceOf_d6 : decode prog_4_method_2_code 6 = .ok (.getfield 15, 3) := wt_op180 wb11m1_prog_4_method_2_code_c0 6 rfl rfl rfl
theorem wp_rw_priceOf_d9 : decode prog_4_method_2_code 9 = .ok (.getfield 48, 3) := wt_op180 wb11m1_prog_4_method_2_code_c0 9 rfl rfl rfl
theorem wp_rw_priceOf_d12 : decode prog_4_method_2_code 12 = .ok (.iload_n 1, 1) := wt_op27 wb11m1_prog_4_method_2_code_c0 12 rfl rfl
theorem wp_rw_priceOf_d13 : decode prog_4_method_2_code 13 = .ok (.invokestatic 53, 3) := wt_op184 wb11m1_prog_4_method_2_code_c0 13 rfl rfl rfl
theorem wp_rw_priceOf_d16 : decode prog_4_method_2_code 16 = .ok (.if_icmp .ge 31, 3) := wt_op162 wb11m1_prog_4_method_2_code_c0 16 rfl rfl rfl
theorem wp_rw_priceOf_d19 : decode prog_4_method_2_code 19 = .ok (.iload_n 2, 1) := wt_op28 wb11m1_prog_4_method_2_code_c0 19 rfl rfl
theorem wp_rw_priceOf_d20 : decode prog_4_method_2_code 20 = .ok (.aload_n 0, 1) := wt_op42 wb11m1_prog_4_method_2_code_c0 20 rfl rfl
theorem wp_rw_priceOf_d21 : decode prog_4_method_2_code 21 = .ok (.getfield 9, 3) := wt_op180 wb11m1_prog_4_method_2_code_c0 21 rfl rfl rfl
theorem wp_rw_priceOf_d24 : decode prog_4_method_2_code 24 = .ok (.getfield 57, 3) := wt_op180 wb11m1_prog_4_method_2_code_c0 24 rfl rfl rfl
theorem wp_rw_priceOf_d27 : decode prog_4_method_2_code 27 = .ok (.aload_n 0, 1) := wt_op42 wb11m1_prog_4_method_2_code_c0 27 rfl rfl
theorem wp_rw_priceOf_d28 : decode prog_4_method_2_code 28 = .ok (.getfield 15, 3) := wt_op180 wb11m1_prog_4_method_2_code_c1 0 rfl rfl rfl
theorem wp_rw_priceOf_d31 : decode prog_4_method_2_code 31 = .ok (.iload_n 1, 1) := wt_op27 wb11m1_prog_4_method_2_code_c1 3 rfl rfl
theorem wp_rw_priceOf_d32 : decode prog_4_method_2_code 32 = .ok (.iload_n 3, 1) := wt_op29 wb11m1_prog_4_method_2_code_c1 4 rfl rfl
theorem wp_rw_priceOf_d33 : decode prog_4_method_2_code 33 = .ok (.invokevirtual 62, 3) := wt_op182 wb11m1_prog_4_method_2_code_c1 5 rfl rfl rfl
theorem wp_rw_priceOf_d36 : decode prog_4_method_2_code 36 = .ok (.invokestatic 53, 3) := wt_op184 wb11m1_prog_4_method_2_code_c1 8 rfl rfl rfl
theorem wp_rw_priceOf_d39 : decode prog_4_method_2_code 39 = .ok (.iadd, 1) := wt_op96 wb11m1_prog_4_method_2_code_c1 11 rfl rfl
theorem wp_rw_priceOf_d40 : decode prog_4_method_2_code 40 = .ok (.istore_n 2, 1) := wt_op61 wb11m1_prog_4_method_2_code_c1 12 rfl rfl
theorem wp_rw_priceOf_d41 : decode prog_4_method_2_code 41 = .ok (.iinc 3 1, 3) := wt_op132 wb11m1_prog_4_method_2_code_c1 13 rfl rfl rfl
theorem wp_rw_priceOf_d44 : decode prog_4_method_2_code 44 = .ok (.goto (-40), 3) := wt_op167 wb11m1_prog_4_method_2_code_c1 16 rfl rfl rfl
theorem wp_rw_priceOf_d47 : decode prog_4_method_2_code 47 = .ok (.iload_n 2, 1) := wt_op28 wb11m1_prog_4_method_2_code_c1 19 rfl rfl
theorem wp_rw_priceOf_d48 : decode prog_4_method_2_code 48 = .ok (.ireturn, 1) := wt_op172 wb11m1_prog_4_method_2_code_c1 20 rfl rfl
noncomputable def wp_rw_priceOf_B4 (n : Nat) (x1 : Int32) (K4 : Int32 × Int32 × wt_St → Option (Int32 × wt_St)) (s : Int32 × Int32 × wt_St) : Option (Int32 × wt_St) :=
  (wp_ap_look n 22 x1 s.2.2).bind fun q1 =>
  if q1.1 ≤ s.2.1 then
    some (s.1, q1.2)
  else
    (wp_tg_letterAt n 20 x1 s.2.1 q1.2).bind fun q3 =>
    (wp_ap_look n 9 q3.1 q3.2).bind fun q4 =>
    K4 ((s.1 + q4.1), (s.2.1 + (1 : Int32)), q4.2)
set_option maxRecDepth 100000 in
set_option maxHeartbeats 4000000 in
theorem wp_rw_priceOf_B4_ok  {x1 : Int32} {X : wt_X} {n : Nat} {res : Int32 × wt_St} (hE : wt_Ok X prog_4_method_2_code 4 "WornType$Rows" 2 0) (hR : wt_Rt X (some .int) (some res.1) res.2) (hD : ∀ i, i < 108 → wt_dom (wt_xw X) i)  {K4 : Int32 × Int32 × wt_St → Option (Int32 × wt_St)} (hK4 : ∀ s : Int32 × Int32 × wt_St, K4 s = some res → wt_V X 0 s.2.2 4 [some (.ref (wt_ad (wt_xw X) 81)), some (.int x1), some (.int s.1), some (.int s.2.1)] []) {s : Int32 × Int32 × wt_St} (h : wp_rw_priceOf_B4 n x1 K4 s = some res) : wt_V X 0 s.2.2 4 [some (.ref (wt_ad (wt_xw X) 81)), some (.int x1), some (.int s.1), some (.int s.2.1)] [] := by
  unfold wp_rw_priceOf_B4 at h
  refine wt_iload_n hE wp_rw_priceOf_d4 rfl ?_
  refine wt_aload_n hE wp_rw_priceOf_d5 rfl ?_
  refine wt_getr hE (r := 20) wt_lf_rw_15 (hD 81 (Nat.le_of_ble_eq_true rfl)) wt_L81 rfl wp_rw_priceOf_d6 ?_
  refine wt_getr hE (r := 22) wt_lf_rw_48 (hD 20 (Nat.le_of_ble_eq_true rfl)) wt_L20 rfl wp_rw_priceOf_d9 ?_
  refine wt_iload_n hE wp_rw_priceOf_d12 rfl ?_
  obtain ⟨q1, hq1, h⟩ := wt_bi h
  refine wt_callSi hE [.ref (wt_ad (wt_xw X) 22), .int x1] wt_lm_rw_53 wt_ya_ap_look (wp_ap_look_ok (wt_lnE wt_L22) (hD 22 (Nat.le_of_ble_eq_true rfl)) hq1) (by omega) rfl rfl (Nat.le_of_ble_eq_true rfl) (Nat.zero_le _) wp_rw_priceOf_d13 (fun hbq1 => ?_)
  refine wt_icmp_ge hE 47 wp_rw_priceOf_d16 rfl (fun c2 => ?_) (fun c2 => ?_)
  · have h := wt_ip c2 h
    refine wt_iload_n hE wp_rw_priceOf_d47 rfl ?_
    cases h
    exact wt_iret hE hR wp_rw_priceOf_d48
  · have h := wt_in c2 h
    refine wt_iload_n hE wp_rw_priceOf_d19 rfl ?_
    refine wt_aload_n hE wp_rw_priceOf_d20 rfl ?_
    refine wt_getr hE (r := 4) wt_lf_rw_9 (hD 81 (Nat.le_of_ble_eq_true rfl)) wt_L81 rfl wp_rw_priceOf_d21 ?_
    refine wt_getr hE (r := 9) wt_lf_rw_57 (hD 4 (Nat.le_of_ble_eq_true rfl)) wt_L4 rfl wp_rw_priceOf_d24 ?_
    refine wt_aload_n hE wp_rw_priceOf_d27 rfl ?_
    refine wt_getr hE (r := 20) wt_lf_rw_15 (hD 81 (Nat.le_of_ble_eq_true rfl)) wt_L81 rfl wp_rw_priceOf_d28 ?_
    refine wt_iload_n hE wp_rw_priceOf_d31 rfl ?_
    refine wt_iload_n hE wp_rw_priceOf_d32 rfl ?_
    obtain ⟨q3, hq3, h⟩ := wt_bi h
    refine wt_callVi hE [.int x1, .int s.2.1] wt_lm_rw_62 wt_ya_tg_letterAt (wp_tg_letterAt_ok wt_isTongue_20 (fun j hj => hD (20 + j) (by omega)) hq3) (by omega) (hD 20 (Nat.le_of_ble_eq_true rfl)) wt_L20 rfl rfl rfl (Nat.le_of_ble_eq_true rfl) (Nat.zero_le _) wp_rw_priceOf_d33 (fun hbq3 => ?_)
    obtain ⟨q4, hq4, h⟩ := wt_bi h
    refine wt_callSi hE [.ref (wt_ad (wt_xw X) 9), .int q3.1] wt_lm_rw_53 wt_ya_ap_look (wp_ap_look_ok (wt_lnE wt_L9) (hD 9 (Nat.le_of_ble_eq_true rfl)) hq4) (by omega) rfl rfl (Nat.le_of_ble_eq_true rfl) (Nat.zero_le _) wp_rw_priceOf_d36 (fun hbq4 => ?_)
    refine wt_iadd hE wp_rw_priceOf_d39 ?_
    refine wt_istore_n hE [some (.ref (wt_ad (wt_xw X) 81)), some (.int x1), some (.int (s.1 + q4.1)), some (.int s.2.1)] wp_rw_priceOf_d40 (by decide) rfl ?_
    refine wt_iinc hE (s.2.1 + (1 : Int32)) [some (.ref (wt_ad (wt_xw X) 81)), some (.int x1), some (.int (s.1 + q4.1)), some (.int (s.2.1 + (1 : Int32)))] wp_rw_priceOf_d41 (by decide) rfl rfl rfl ?_
    refine wt_goto hE 4 wp_rw_priceOf_d44 rfl ?_
    exact hK4 ((s.1 + q4.1), (s.2.1 + (1 : Int32)), q4.2) h
noncomputable def wp_rw_priceOf (n : Nat) (x1 : Int32) (σ : wt_St) : Option (Int32 × wt_St) :=
  wt_it (wp_rw_priceOf_B4 n x1) n ((0 : Int32), (0 : Int32), σ)
set_option maxRecDepth 100000 in
set_option maxHeartbeats 4000000 in
theorem wp_rw_priceOf_ok {l : Launch} {w : wt_E} {n : Nat} {x1 : Int32} (hD : ∀ i, i < 108 → wt_dom w i) {σ : wt_St} {q : Int32 × wt_St} (h : wp_rw_priceOf n x1 σ = some q) : wt_Ctr l w wt_y_rw_priceOf prog_4_method_2_code 4 (some .int) 2 [.ref (wt_ad w 81), .int x1] σ (some q.1) q.2 := by
  refine wt_ctr wt_pl_rw_priceOf rfl (Nat.le_of_ble_eq_true rfl) [some (.ref (wt_ad w 81)), some (.int x1), none, none] rfl ?_
  intro X hXl hXw hE hR
  subst hXl
  subst hXw
  have hE : wt_Ok X prog_4_method_2_code 4 "WornType$Rows" 2 0 := hE
  unfold wp_rw_priceOf at h
  refine wt_iconst hE (0 : Int32) wp_rw_priceOf_d0 wt_ci_0 ?_
  refine wt_istore_n hE [some (.ref (wt_ad (wt_xw X) 81)), some (.int x1), some (.int (0 : Int32)), none] wp_rw_priceOf_d1 (by decide) rfl ?_
  refine wt_iconst hE (0 : Int32) wp_rw_priceOf_d2 wt_ci_0 ?_
  refine wt_istore_n hE [some (.ref (wt_ad (wt_xw X) 81)), some (.int x1), some (.int (0 : Int32)), some (.int (0 : Int32))] wp_rw_priceOf_d3 (by decide) rfl ?_
  exact wt_it_ind (fun z => wt_V X 0 z.2.2 4 [some (.ref (wt_ad (wt_xw X) 81)), some (.int x1), some (.int z.1), some (.int z.2.1)] []) (fun K hK z h => wp_rw_priceOf_B4_ok hE hR hD hK h) n ((0 : Int32), (0 : Int32), σ) h
def wb11m1_prog_4_method_9_code_r2 : List (List Nat) := [29, 153, 0, 12, 21, 6, 155, 0, 7, 4, 167, 0, 4, 3, 62, 132, 4, 1, 167, 255, 186, 29, 172] :: []
def wb11m1_prog_4_method_9_code_r1 : List (List Nat) := [182, 0, 62, 54, 5, 42, 180, 0, 35, 21, 5, 184, 0, 53, 28, 100, 54, 6, 42, 180, 0, 35, 21, 5, 21, 6, 184, 0, 85] :: wb11m1_prog_4_method_9_code_r2
def wb11m1_prog_4_method_9_code_r0 : List (List Nat) := [4, 62, 3, 54, 4, 21, 4, 42, 180, 0, 15, 180, 0, 48, 27, 184, 0, 53, 162, 0, 60, 42, 180, 0, 15, 27, 21, 4] :: wb11m1_prog_4_method_9_code_r1
set_option maxRecDepth 100000 in
theorem wb11m1_prog_4_method_9_code_c0 : wt_cs prog_4_method_9_code 0 wb11m1_prog_4_method_9_code_r0 := wt_cs_of (by decide +kernel)
theorem wb11m1_prog_4_method_9_code_c1 : wt_cs prog_4_method_9_code 28 wb11m1_prog_4_method_9_code_r1 := wt_cs_tl (m := 28) wb11m1_prog_4_method_9_code_c0 rfl rfl
theorem wb11m1_prog_4_method_9_code_c2 : wt_cs prog_4_method_9_code 57 wb11m1_prog_4_method_9_code_r2 := wt_cs_tl (m := 29) wb11m1_prog_4_method_9_code_c1 rfl rfl
theorem wp_rw_spend_d0 : decode prog_4_method_9_code 0 = .ok (.iconst 1, 1) := wt_op4 wb11m1_prog_4_method_9_code_c0 0 rfl rfl
theorem wp_rw_spend_d1 : decode prog_4_method_9_code 1 = .ok (.istore_n 3, 1) := wt_op62 wb11m1_prog_4_method_9_code_c0 1 rfl rfl
theorem wp_rw_spend_d2 : decode prog_4_method_9_code 2 = .ok (.iconst 0, 1) := wt_op3 wb11m1_prog_4_method_9_code_c0 2 rfl rfl
theorem wp_rw_spend_d3 : decode prog_4_method_9_code 3 = .ok (.istore 4, 2) := wt_op54 wb11m1_prog_4_method_9_code_c0 3 rfl rfl
theorem wp_rw_spend_d5 : decode prog_4_method_9_code 5 = .ok (.iload 4, 2) := wt_op21 wb11m1_prog_4_method_9_code_c0 5 rfl rfl
theorem wp_rw_spend_d7 : decode prog_4_method_9_code 7 = .ok (.aload_n 0, 1) := wt_op42 wb11m1_prog_4_method_9_code_c0 7 rfl rfl
theorem wp_rw_spend_d8 : decode prog_4_method_9_code 8 = .ok (.getfield 15, 3) := wt_op180 wb11m1_prog_4_method_9_code_c0 8 rfl rfl rfl
theorem wp_rw_spend_d11 : decode prog_4_method_9_code 11 = .ok (.getfield 48, 3) := wt_op180 wb11m1_prog_4_method_9_code_c0 11 rfl rfl rfl
theorem wp_rw_spend_d14 : decode prog_4_method_9_code 14 = .ok (.iload_n 1, 1) := wt_op27 wb11m1_prog_4_method_9_code_c0 14 rfl rfl
theorem wp_rw_spend_d15 : decode prog_4_method_9_code 15 = .ok (.invokestatic 53, 3) := wt_op184 wb11m1_prog_4_method_9_code_c0 15 rfl rfl rfl
theorem wp_rw_spend_d18 : decode prog_4_method_9_code 18 = .ok (.if_icmp .ge 60, 3) := wt_op162 wb11m1_prog_4_method_9_code_c0 18 rfl rfl rfl
theorem wp_rw_spend_d21 : decode prog_4_method_9_code 21 = .ok (.aload_n 0, 1) := wt_op42 wb11m1_prog_4_method_9_code_c0 21 rfl rfl
theorem wp_rw_spend_d22 : decode prog_4_method_9_code 22 = .ok (.getfield 15, 3) := wt_op180 wb11m1_prog_4_method_9_code_c0 22 rfl rfl rfl
theorem wp_rw_spend_d25 : decode prog_4_method_9_code 25 = .ok (.iload_n 1, 1) := wt_op27 wb11m1_prog_4_method_9_code_c0 25 rfl rfl
theorem wp_rw_spend_d26 : decode prog_4_method_9_code 26 = .ok (.iload 4, 2) := wt_op21 wb11m1_prog_4_method_9_code_c0 26 rfl rfl
theorem wp_rw_spend_d28 : decode prog_4_method_9_code 28 = .ok (.invokevirtual 62, 3) := wt_op182 wb11m1_prog_4_method_9_code_c1 0 rfl rfl rfl
theorem wp_rw_spend_d31 : decode prog_4_method_9_code 31 = .ok (.istore 5, 2) := wt_op54 wb11m1_prog_4_method_9_code_c1 3 rfl rfl
theorem wp_rw_spend_d33 : decode prog_4_method_9_code 33 = .ok (.aload_n 0, 1) := wt_op42 wb11m1_prog_4_method_9_code_c1 5 rfl rfl
theorem wp_rw_spend_d34 : decode prog_4_method_9_code 34 = .ok (.getfield 35, 3) := wt_op180 wb11m1_prog_4_method_9_code_c1 6 rfl rfl rfl
theorem wp_rw_spend_d37 : decode prog_4_method_9_code 37 = .ok (.iload 5, 2) := wt_op21 wb11m1_prog_4_method_9_code_c1 9 rfl rfl
theorem wp_rw_spend_d39 : decode prog_4_method_9_code 39 = .ok (.invokestatic 53, 3) := wt_op184 wb11m1_prog_4_method_9_code_c1 11 rfl rfl rfl
theorem wp_rw_spend_d42 : decode prog_4_method_9_code 42 = .ok (.iload_n 2, 1) := wt_op28 wb11m1_prog_4_method_9_code_c1 14 rfl rfl
theorem wp_rw_spend_d43 : decode prog_4_method_9_code 43 = .ok (.isub, 1) := wt_op100 wb11m1_prog_4_method_9_code_c1 15 rfl rfl
theorem wp_rw_spend_d44 : decode prog_4_method_9_code 44 = .ok (.istore 6, 2) := wt_op54 wb11m1_prog_4_method_9_code_c1 16 rfl rfl
theorem wp_rw_spend_d46 : decode prog_4_method_9_code 46 = .ok (.aload_n 0, 1) := wt_op42 wb11m1_prog_4_method_9_code_c1 18 rfl rfl
theorem wp_rw_spend_d47 : decode prog_4_method_9_code 47 = .ok (.getfield 35, 3) := wt_op180 wb11m1_prog_4_method_9_code_c1 19 rfl rfl rfl
theorem wp_rw_spend_d50 : decode prog_4_method_9_code 50 = .ok (.iload 5, 2) := wt_op21 wb11m1_prog_4_method_9_code_c1 22 rfl rfl
theorem wp_rw_spend_d52 : decode prog_4_method_9_code 52 = .ok (.iload 6, 2) := wt_op21 wb11m1_prog_4_method_9_code_c1 24 rfl rfl
theorem wp_rw_spend_d54 : decode prog_4_method_9_code 54 = .ok (.invokestatic 85, 3) := wt_op184 wb11m1_prog_4_method_9_code_c1 26 rfl rfl rfl
theorem wp_rw_spend_d57 : decode prog_4_method_9_code 57 = .ok (.iload_n 3, 1) := wt_op29 wb11m1_prog_4_method_9_code_c2 0 rfl rfl
theorem wp_rw_spend_d58 : decode prog_4_method_9_code 58 = .ok (.ifCond .eq 12, 3) := wt_op153 wb11m1_prog_4_method_9_code_c2 1 rfl rfl rfl
theorem wp_rw_spend_d61 : decode prog_4_method_9_code 61 = .ok (.iload 6, 2) := wt_op21 wb11m1_prog_4_method_9_code_c2 4 rfl rfl
theorem wp_rw_spend_d63 : decode prog_4_method_9_code 63 = .ok (.ifCond .lt 7, 3) := wt_op155 wb11m1_prog_4_method_9_code_c2 6 rfl rfl rfl
theorem wp_rw_spend_d66 : decode prog_4_method_9_code 66 = .ok (.iconst 1, 1) := wt_op4 wb11m1_prog_4_method_9_code_c2 9 rfl rfl
theorem wp_rw_spend_d67 : decode prog_4_method_9_code 67 = .ok (.goto 4, 3) := wt_op167 wb11m1_prog_4_method_9_code_c2 10 rfl rfl rfl
theorem wp_rw_spend_d70 : decode prog_4_method_9_code 70 = .ok (.iconst 0, 1) := wt_op3 wb11m1_prog_4_method_9_code_c2 13 rfl rfl
theorem wp_rw_spend_d71 : decode prog_4_method_9_code 71 = .ok (.istore_n 3, 1) := wt_op62 wb11m1_prog_4_method_9_code_c2 14 rfl rfl
theorem wp_rw_spend_d72 : decode prog_4_method_9_code 72 = .ok (.iinc 4 1, 3) := wt_op132 wb11m1_prog_4_method_9_code_c2 15 rfl rfl rfl
theorem wp_rw_spend_d75 : decode prog_4_method_9_code 75 = .ok (.goto (-70), 3) := wt_op167 wb11m1_prog_4_method_9_code_c2 18 rfl rfl rfl
theorem wp_rw_spend_d78 : decode prog_4_method_9_code 78 = .ok (.iload_n 3, 1) := wt_op29 wb11m1_prog_4_method_9_code_c2 21 rfl rfl
theorem wp_rw_spend_d79 : decode prog_4_method_9_code 79 = .ok (.ireturn, 1) := wt_op172 wb11m1_prog_4_method_9_code_c2 22 rfl rfl
noncomputable def wp_rw_spend_B71 (n : Nat) (x1 : Int32) (x2 : Int32) (x4 : Int32) (K5 : Int32 × Int32 × wt_St → Option (Int32 × wt_St)) (y0 : Int32) (σ : wt_St) : Option (Int32 × wt_St) :=
  K5 (y0, (x4 + (1 : Int32)), σ)
set_option maxRecDepth 100000 in
set_option maxHeartbeats 4000000 in
theorem wp_rw_spend_B71_ok  {x1 : Int32} {x2 : Int32} {x4 : Int32} {X : wt_X} {n : Nat} {res : Int32 × wt_St} (hE : wt_Ok X prog_4_method_9_code 7 "WornType$Rows" 2 0) (hR : wt_Rt X (some .boolean) (some res.1) res.2) (hD : ∀ i, i < 108 → wt_dom (wt_xw X) i)  {K5 : Int32 × Int32 × wt_St → Option (Int32 × wt_St)} (hK5 : ∀ s : Int32 × Int32 × wt_St, K5 s = some res → wt_V X 0 s.2.2 5 [some (.ref (wt_ad (wt_xw X) 81)), some (.int x1), some (.int x2), some (.int s.1), some (.int s.2.1), none, none] []) {σ : wt_St} {y0 : Int32} (h : wp_rw_spend_B71 n x1 x2 x4 K5 y0 σ = some res) : wt_V X 0 σ 71 [some (.ref (wt_ad (wt_xw X) 81)), some (.int x1), some (.int x2), none, some (.int x4), none, none] [.int y0] := by
  unfold wp_rw_spend_B71 at h
  refine wt_istore_n hE [some (.ref (wt_ad (wt_xw X) 81)), some (.int x1), some (.int x2), some (.int y0), some (.int x4), none, none] wp_rw_spend_d71 (by decide) rfl ?_
  refine wt_iinc hE (x4 + (1 : Int32)) [some (.ref (wt_ad (wt_xw X) 81)), some (.int x1), some (.int x2), some (.int y0), some (.int (x4 + (1 : Int32))), none, none] wp_rw_spend_d72 (by decide) rfl rfl rfl ?_
  refine wt_goto hE 5 wp_rw_spend_d75 rfl ?_
  exact hK5 (y0, (x4 + (1 : Int32)), σ) h
noncomputable def wp_rw_spend_B70 (n : Nat) (x1 : Int32) (x2 : Int32) (x4 : Int32) (K5 : Int32 × Int32 × wt_St → Option (Int32 × wt_St)) (σ : wt_St) : Option (Int32 × wt_St) :=
  wp_rw_spend_B71 n x1 x2 x4 K5 (0 : Int32) σ
set_option maxRecDepth 100000 in
set_option maxHeartbeats 4000000 in
theorem wp_rw_spend_B70_ok  {x1 : Int32} {x2 : Int32} {x4 : Int32} {X : wt_X} {n : Nat} {res : Int32 × wt_St} (hE : wt_Ok X prog_4_method_9_code 7 "WornType$Rows" 2 0) (hR : wt_Rt X (some .boolean) (some res.1) res.2) (hD : ∀ i, i < 108 → wt_dom (wt_xw X) i)  {K5 : Int32 × Int32 × wt_St → Option (Int32 × wt_St)} (hK5 : ∀ s : Int32 × Int32 × wt_St, K5 s = some res → wt_V X 0 s.2.2 5 [some (.ref (wt_ad (wt_xw X) 81)), some (.int x1), some (.int x2), some (.int s.1), some (.int s.2.1), none, none] []) {σ : wt_St} (h : wp_rw_spend_B70 n x1 x2 x4 K5 σ = some res) : wt_V X 0 σ 70 [some (.ref (wt_ad (wt_xw X) 81)), some (.int x1), some (.int x2), none, some (.int x4), none, none] [] := by
  unfold wp_rw_spend_B70 at h
  refine wt_iconst hE (0 : Int32) wp_rw_spend_d70 wt_ci_0 ?_
  exact wp_rw_spend_B71_ok hE hR hD hK5 h
noncomputable def wp_rw_spend_B5 (n : Nat) (x1 : Int32) (x2 : Int32) (K5 : Int32 × Int32 × wt_St → Option (Int32 × wt_St)) (s : Int32 × Int32 × wt_St) : Option (Int32 × wt_St) :=
  (wp_ap_look n 22 x1 s.2.2).bind fun q1 =>
  if q1.1 ≤ s.2.1 then
    if s.1 = 0 ∨ s.1 = 1 then some (s.1, q1.2) else none
  else
    (wp_tg_letterAt n 20 x1 s.2.1 q1.2).bind fun q4 =>
    (wp_ap_look n 83 q4.1 q4.2).bind fun q5 =>
    (wp_ap_put n 83 q4.1 (q5.1 - x2) q5.2).bind fun q6 =>
    if s.1 = 0 then
      wp_rw_spend_B70 n x1 x2 s.2.1 K5 q6
    else
      if (q5.1 - x2) < 0 then
        wp_rw_spend_B70 n x1 x2 s.2.1 K5 q6
      else
        wp_rw_spend_B71 n x1 x2 s.2.1 K5 (1 : Int32) q6
set_option maxRecDepth 100000 in
set_option maxHeartbeats 4000000 in
theorem wp_rw_spend_B5_ok  {x1 : Int32} {x2 : Int32} {X : wt_X} {n : Nat} {res : Int32 × wt_St} (hE : wt_Ok X prog_4_method_9_code 7 "WornType$Rows" 2 0) (hR : wt_Rt X (some .boolean) (some res.1) res.2) (hD : ∀ i, i < 108 → wt_dom (wt_xw X) i)  {K5 : Int32 × Int32 × wt_St → Option (Int32 × wt_St)} (hK5 : ∀ s : Int32 × Int32 × wt_St, K5 s = some res → wt_V X 0 s.2.2 5 [some (.ref (wt_ad (wt_xw X) 81)), some (.int x1), some (.int x2), some (.int s.1), some (.int s.2.1), none, none] []) {s : Int32 × Int32 × wt_St} (h : wp_rw_spend_B5 n x1 x2 K5 s = some res) : wt_V X 0 s.2.2 5 [some (.ref (wt_ad (wt_xw X) 81)), some (.int x1), some (.int x2), some (.int s.1), some (.int s.2.1), none, none] [] := by
  unfold wp_rw_spend_B5 at h
  refine wt_iload hE wp_rw_spend_d5 rfl ?_
  refine wt_aload_n hE wp_rw_spend_d7 rfl ?_
  refine wt_getr hE (r := 20) wt_lf_rw_15 (hD 81 (Nat.le_of_ble_eq_true rfl)) wt_L81 rfl wp_rw_spend_d8 ?_
  refine wt_getr hE (r := 22) wt_lf_rw_48 (hD 20 (Nat.le_of_ble_eq_true rfl)) wt_L20 rfl wp_rw_spend_d11 ?_
  refine wt_iload_n hE wp_rw_spend_d14 rfl ?_
  obtain ⟨q1, hq1, h⟩ := wt_bi h
  refine wt_callSi hE [.ref (wt_ad (wt_xw X) 22), .int x1] wt_lm_rw_53 wt_ya_ap_look (wp_ap_look_ok (wt_lnE wt_L22) (hD 22 (Nat.le_of_ble_eq_true rfl)) hq1) (by omega) rfl rfl (Nat.le_of_ble_eq_true rfl) (Nat.zero_le _) wp_rw_spend_d15 (fun hbq1 => ?_)
  refine wt_icmp_ge hE 78 wp_rw_spend_d18 rfl (fun c2 => ?_) (fun c2 => ?_)
  · have h := wt_ip c2 h
    refine wt_iload_n hE wp_rw_spend_d78 rfl ?_
    obtain ⟨g3, h⟩ := wt_gp h
    cases h
    exact wt_zret hE g3 hR wp_rw_spend_d79
  · have h := wt_in c2 h
    refine wt_aload_n hE wp_rw_spend_d21 rfl ?_
    refine wt_getr hE (r := 20) wt_lf_rw_15 (hD 81 (Nat.le_of_ble_eq_true rfl)) wt_L81 rfl wp_rw_spend_d22 ?_
    refine wt_iload_n hE wp_rw_spend_d25 rfl ?_
    refine wt_iload hE wp_rw_spend_d26 rfl ?_
    obtain ⟨q4, hq4, h⟩ := wt_bi h
    refine wt_callVi hE [.int x1, .int s.2.1] wt_lm_rw_62 wt_ya_tg_letterAt (wp_tg_letterAt_ok wt_isTongue_20 (fun j hj => hD (20 + j) (by omega)) hq4) (by omega) (hD 20 (Nat.le_of_ble_eq_true rfl)) wt_L20 rfl rfl rfl (Nat.le_of_ble_eq_true rfl) (Nat.zero_le _) wp_rw_spend_d28 (fun hbq4 => ?_)
    refine wt_istore hE [some (.ref (wt_ad (wt_xw X) 81)), some (.int x1), some (.int x2), some (.int s.1), some (.int s.2.1), some (.int q4.1), none] wp_rw_spend_d31 (Nat.le_of_ble_eq_true rfl) rfl ?_
    refine wt_aload_n hE wp_rw_spend_d33 rfl ?_
    refine wt_getr hE (r := 83) wt_lf_rw_35 (hD 81 (Nat.le_of_ble_eq_true rfl)) wt_L81 rfl wp_rw_spend_d34 ?_
    refine wt_iload hE wp_rw_spend_d37 rfl ?_
    obtain ⟨q5, hq5, h⟩ := wt_bi h
    refine wt_callSi hE [.ref (wt_ad (wt_xw X) 83), .int q4.1] wt_lm_rw_53 wt_ya_ap_look (wp_ap_look_ok (wt_lnE wt_L83) (hD 83 (Nat.le_of_ble_eq_true rfl)) hq5) (by omega) rfl rfl (Nat.le_of_ble_eq_true rfl) (Nat.zero_le _) wp_rw_spend_d39 (fun hbq5 => ?_)
    refine wt_iload_n hE wp_rw_spend_d42 rfl ?_
    refine wt_isub hE wp_rw_spend_d43 ?_
    refine wt_istore hE [some (.ref (wt_ad (wt_xw X) 81)), some (.int x1), some (.int x2), some (.int s.1), some (.int s.2.1), some (.int q4.1), some (.int (q5.1 - x2))] wp_rw_spend_d44 (Nat.le_of_ble_eq_true rfl) rfl ?_
    refine wt_aload_n hE wp_rw_spend_d46 rfl ?_
    refine wt_getr hE (r := 83) wt_lf_rw_35 (hD 81 (Nat.le_of_ble_eq_true rfl)) wt_L81 rfl wp_rw_spend_d47 ?_
    refine wt_iload hE wp_rw_spend_d50 rfl ?_
    refine wt_iload hE wp_rw_spend_d52 rfl ?_
    obtain ⟨q6, hq6, h⟩ := wt_bi h
    refine wt_callSv hE [.ref (wt_ad (wt_xw X) 83), .int q4.1, .int (q5.1 - x2)] wt_lm_rw_85 wt_ya_ap_put (wp_ap_put_ok (wt_lnE wt_L83) (hD 83 (Nat.le_of_ble_eq_true rfl)) hq6) (by omega) rfl rfl (Nat.le_of_ble_eq_true rfl) (Nat.zero_le _) wp_rw_spend_d54 ?_
    refine wt_iload_n hE wp_rw_spend_d57 rfl ?_
    refine wt_if_eq hE 70 wp_rw_spend_d58 rfl (fun c7 => ?_) (fun c7 => ?_)
    · have h := wt_ip c7 h
      refine wt_wk [true, true, true, false, true, false, false] rfl ?_
      exact wp_rw_spend_B70_ok hE hR hD hK5 h
    · have h := wt_in c7 h
      refine wt_iload hE wp_rw_spend_d61 rfl ?_
      refine wt_if_lt hE 70 wp_rw_spend_d63 rfl (fun c8 => ?_) (fun c8 => ?_)
      · have h := wt_ip c8 h
        refine wt_wk [true, true, true, false, true, false, false] rfl ?_
        exact wp_rw_spend_B70_ok hE hR hD hK5 h
      · have h := wt_in c8 h
        refine wt_iconst hE (1 : Int32) wp_rw_spend_d66 wt_ci_1 ?_
        refine wt_goto hE 71 wp_rw_spend_d67 rfl ?_
        refine wt_wk [true, true, true, false, true, false, false] rfl ?_
        exact wp_rw_spend_B71_ok hE hR hD hK5 h
noncomputable def wp_rw_spend (n : Nat) (x1 : Int32) (x2 : Int32) (σ : wt_St) : Option (Int32 × wt_St) :=
  wt_it (wp_rw_spend_B5 n x1 x2) n ((1 : Int32), (0 : Int32), σ)
set_option maxRecDepth 100000 in
set_option maxHeartbeats 4000000 in
theorem wp_rw_spend_ok {l : Launch} {w : wt_E} {n : Nat} {x1 : Int32} {x2 : Int32} (hD : ∀ i, i < 108 → wt_dom w i) {σ : wt_St} {q : Int32 × wt_St} (h : wp_rw_spend n x1 x2 σ = some q) : wt_Ctr l w wt_y_rw_spend prog_4_method_9_code 7 (some .boolean) 2 [.ref (wt_ad w 81), .int x1, .int x2] σ (some q.1) q.2 := by
  refine wt_ctr wt_pl_rw_spend rfl (Nat.le_of_ble_eq_true rfl) [some (.ref (wt_ad w 81)), some (.int x1), some (.int x2), none, none, none, none] rfl ?_
  intro X hXl hXw hE hR
  subst hXl
  subst hXw
  have hE : wt_Ok X prog_4_method_9_code 7 "WornType$Rows" 2 0 := hE
  unfold wp_rw_spend at h
  refine wt_iconst hE (1 : Int32) wp_rw_spend_d0 wt_ci_1 ?_
  refine wt_istore_n hE [some (.ref (wt_ad (wt_xw X) 81)), some (.int x1), some (.int x2), some (.int (1 : Int32)), none, none, none] wp_rw_spend_d1 (by decide) rfl ?_
  refine wt_iconst hE (0 : Int32) wp_rw_spend_d2 wt_ci_0 ?_
  refine wt_istore hE [some (.ref (wt_ad (wt_xw X) 81)), some (.int x1), some (.int x2), some (.int (1 : Int32)), some (.int (0 : Int32)), none, none] wp_rw_spend_d3 (Nat.le_of_ble_eq_true rfl) rfl ?_
  exact wt_it_ind (fun z => wt_V X 0 z.2.2 5 [some (.ref (wt_ad (wt_xw X) 81)), some (.int x1), some (.int x2), some (.int z.1), some (.int z.2.1), none, none] []) (fun K hK z h => wp_rw_spend_B5_ok hE hR hD hK h) n ((1 : Int32), (0 : Int32), σ) h
def wb11m1_prog_9_method_5_code_r0 : List (List Nat) := [42, 180, 0, 24, 42, 180, 0, 21, 27, 184, 0, 41, 184, 0, 41, 172] :: []
set_option maxRecDepth 100000 in
theorem wb11m1_prog_9_method_5_code_c0 : wt_cs prog_9_method_5_code 0 wb11m1_prog_9_method_5_code_r0 := wt_cs_of (by decide +kernel)
theorem wp_tg_firstLike_d0 : decode prog_9_method_5_code 0 = .ok (.aload_n 0, 1) := wt_op42 wb11m1_prog_9_method_5_code_c0 0 rfl rfl
theorem wp_tg_firstLike_d1 : decode prog_9_method_5_code 1 = .ok (.getfield 24, 3) := wt_op180 wb11m1_prog_9_method_5_code_c0 1 rfl rfl rfl
theorem wp_tg_firstLike_d4 : decode prog_9_method_5_code 4 = .ok (.aload_n 0, 1) := wt_op42 wb11m1_prog_9_method_5_code_c0 4 rfl rfl
theorem wp_tg_firstLike_d5 : decode prog_9_method_5_code 5 = .ok (.getfield 21, 3) := wt_op180 wb11m1_prog_9_method_5_code_c0 5 rfl rfl rfl
theorem wp_tg_firstLike_d8 : decode prog_9_method_5_code 8 = .ok (.iload_n 1, 1) := wt_op27 wb11m1_prog_9_method_5_code_c0 8 rfl rfl
theorem wp_tg_firstLike_d9 : decode prog_9_method_5_code 9 = .ok (.invokestatic 41, 3) := wt_op184 wb11m1_prog_9_method_5_code_c0 9 rfl rfl rfl
theorem wp_tg_firstLike_d12 : decode prog_9_method_5_code 12 = .ok (.invokestatic 41, 3) := wt_op184 wb11m1_prog_9_method_5_code_c0 12 rfl rfl rfl
theorem wp_tg_firstLike_d15 : decode prog_9_method_5_code 15 = .ok (.ireturn, 1) := wt_op172 wb11m1_prog_9_method_5_code_c0 15 rfl rfl
noncomputable def wp_tg_firstLike (n : Nat) (t0 : Nat) (x1 : Int32) (σ : wt_St) : Option (Int32 × wt_St) :=
  (wp_ap_look n (t0 + 4) x1 σ).bind fun q1 =>
  (wp_ap_look n (t0 + 5) q1.1 q1.2).bind fun q2 =>
  some (q2.1, q2.2)
set_option maxRecDepth 100000 in
set_option maxHeartbeats 4000000 in
theorem wp_tg_firstLike_ok {l : Launch} {w : wt_E} {n : Nat} {t0 : Nat} {x1 : Int32} (hI_t0 : wt_isTongue t0) (hT_t0 : ∀ j, j < 7 → wt_dom w (t0 + j)) {σ : wt_St} {q : Int32 × wt_St} (h : wp_tg_firstLike n t0 x1 σ = some q) : wt_Ctr l w wt_y_tg_firstLike prog_9_method_5_code 2 (some .int) 1 [.ref (wt_ad w t0), .int x1] σ (some q.1) q.2 := by
  refine wt_ctr wt_pl_tg_firstLike rfl (Nat.le_of_ble_eq_true rfl) [some (.ref (wt_ad w t0)), some (.int x1)] rfl ?_
  intro X hXl hXw hE hR
  subst hXl
  subst hXw
  have hE : wt_Ok X prog_9_method_5_code 2 "WornType$Tongue" 1 0 := hE
  unfold wp_tg_firstLike at h
  refine wt_aload_n hE wp_tg_firstLike_d0 rfl ?_
  refine wt_getr hE (r := (t0 + 5)) wt_lf_tg_24 (hT_t0 0 (Nat.le_of_ble_eq_true rfl)) (hI_t0.1) rfl wp_tg_firstLike_d1 ?_
  refine wt_aload_n hE wp_tg_firstLike_d4 rfl ?_
  refine wt_getr hE (r := (t0 + 4)) wt_lf_tg_21 (hT_t0 0 (Nat.le_of_ble_eq_true rfl)) (hI_t0.1) rfl wp_tg_firstLike_d5 ?_
  refine wt_iload_n hE wp_tg_firstLike_d8 rfl ?_
  obtain ⟨q1, hq1, h⟩ := wt_bi h
  refine wt_callSi hE [.ref (wt_ad (wt_xw X) ((t0 + 4))), .int x1] wt_lm_tg_41 wt_ya_ap_look (wp_ap_look_ok (wt_lnE (wt_isTongue_L4 hI_t0)) (hT_t0 4 (Nat.le_of_ble_eq_true rfl)) hq1) (by omega) rfl rfl (Nat.le_of_ble_eq_true rfl) (Nat.zero_le _) wp_tg_firstLike_d9 (fun hbq1 => ?_)
  obtain ⟨q2, hq2, h⟩ := wt_bi h
  refine wt_callSi hE [.ref (wt_ad (wt_xw X) ((t0 + 5))), .int q1.1] wt_lm_tg_41 wt_ya_ap_look (wp_ap_look_ok (wt_lnE (wt_isTongue_L5 hI_t0)) (hT_t0 5 (Nat.le_of_ble_eq_true rfl)) hq2) (by omega) rfl rfl (Nat.le_of_ble_eq_true rfl) (Nat.zero_le _) wp_tg_firstLike_d12 (fun hbq2 => ?_)
  cases h
  exact wt_iret hE hR wp_tg_firstLike_d15
def wb11m1_prog_9_method_6_code_r0 : List (List Nat) := [42, 180, 0, 27, 42, 180, 0, 21, 27, 184, 0, 41, 184, 0, 41, 172] :: []
set_option maxRecDepth 100000 in
theorem wb11m1_prog_9_method_6_code_c0 : wt_cs prog_9_method_6_code 0 wb11m1_prog_9_method_6_code_r0 := wt_cs_of (by decide +kernel)
theorem wp_tg_membersLike_d0 : decode prog_9_method_6_code 0 = .ok (.aload_n 0, 1) := wt_op42 wb11m1_prog_9_method_6_code_c0 0 rfl rfl
theorem wp_tg_membersLike_d1 : decode prog_9_method_6_code 1 = .ok (.getfield 27, 3) := wt_op180 wb11m1_prog_9_method_6_code_c0 1 rfl rfl rfl
theorem wp_tg_membersLike_d4 : decode prog_9_method_6_code 4 = .ok (.aload_n 0, 1) := wt_op42 wb11m1_prog_9_method_6_code_c0 4 rfl rfl
theorem wp_tg_membersLike_d5 : decode prog_9_method_6_code 5 = .ok (.getfield 21, 3) := wt_op180 wb11m1_prog_9_method_6_code_c0 5 rfl rfl rfl
theorem wp_tg_membersLike_d8 : decode prog_9_method_6_code 8 = .ok (.iload_n 1, 1) := wt_op27 wb11m1_prog_9_method_6_code_c0 8 rfl rfl
theorem wp_tg_membersLike_d9 : decode prog_9_method_6_code 9 = .ok (.invokestatic 41, 3) := wt_op184 wb11m1_prog_9_method_6_code_c0 9 rfl rfl rfl
theorem wp_tg_membersLike_d12 : decode prog_9_method_6_code 12 = .ok (.invokestatic 41, 3) := wt_op184 wb11m1_prog_9_method_6_code_c0 12 rfl rfl rfl
theorem wp_tg_membersLike_d15 : decode prog_9_method_6_code 15 = .ok (.ireturn, 1) := wt_op172 wb11m1_prog_9_method_6_code_c0 15 rfl rfl
noncomputable def wp_tg_membersLike (n : Nat) (t0 : Nat) (x1 : Int32) (σ : wt_St) : Option (Int32 × wt_St) :=
  (wp_ap_look n (t0 + 4) x1 σ).bind fun q1 =>
  (wp_ap_look n (t0 + 6) q1.1 q1.2).bind fun q2 =>
  some (q2.1, q2.2)
set_option maxRecDepth 100000 in
set_option maxHeartbeats 4000000 in
theorem wp_tg_membersLike_ok {l : Launch} {w : wt_E} {n : Nat} {t0 : Nat} {x1 : Int32} (hI_t0 : wt_isTongue t0) (hT_t0 : ∀ j, j < 7 → wt_dom w (t0 + j)) {σ : wt_St} {q : Int32 × wt_St} (h : wp_tg_membersLike n t0 x1 σ = some q) : wt_Ctr l w wt_y_tg_membersLike prog_9_method_6_code 2 (some .int) 1 [.ref (wt_ad w t0), .int x1] σ (some q.1) q.2 := by
  refine wt_ctr wt_pl_tg_membersLike rfl (Nat.le_of_ble_eq_true rfl) [some (.ref (wt_ad w t0)), some (.int x1)] rfl ?_
  intro X hXl hXw hE hR
  subst hXl
  subst hXw
  have hE : wt_Ok X prog_9_method_6_code 2 "WornType$Tongue" 1 0 := hE
  unfold wp_tg_membersLike at h
  refine wt_aload_n hE wp_tg_membersLike_d0 rfl ?_
  refine wt_getr hE (r := (t0 + 6)) wt_lf_tg_27 (hT_t0 0 (Nat.le_of_ble_eq_true rfl)) (hI_t0.1) rfl wp_tg_membersLike_d1 ?_
  refine wt_aload_n hE wp_tg_membersLike_d4 rfl ?_
  refine wt_getr hE (r := (t0 + 4)) wt_lf_tg_21 (hT_t0 0 (Nat.le_of_ble_eq_true rfl)) (hI_t0.1) rfl wp_tg_membersLike_d5 ?_
  refine wt_iload_n hE wp_tg_membersLike_d8 rfl ?_
  obtain ⟨q1, hq1, h⟩ := wt_bi h
  refine wt_callSi hE [.ref (wt_ad (wt_xw X) ((t0 + 4))), .int x1] wt_lm_tg_41 wt_ya_ap_look (wp_ap_look_ok (wt_lnE (wt_isTongue_L4 hI_t0)) (hT_t0 4 (Nat.le_of_ble_eq_true rfl)) hq1) (by omega) rfl rfl (Nat.le_of_ble_eq_true rfl) (Nat.zero_le _) wp_tg_membersLike_d9 (fun hbq1 => ?_)
  obtain ⟨q2, hq2, h⟩ := wt_bi h
  refine wt_callSi hE [.ref (wt_ad (wt_xw X) ((t0 + 6))), .int q1.1] wt_lm_tg_41 wt_ya_ap_look (wp_ap_look_ok (wt_lnE (wt_isTongue_L6 hI_t0)) (hT_t0 6 (Nat.le_of_ble_eq_true rfl)) hq2) (by omega) rfl rfl (Nat.le_of_ble_eq_true rfl) (Nat.zero_le _) wp_tg_membersLike_d12 (fun hbq2 => ?_)
  cases h
  exact wt_iret hE hR wp_tg_membersLike_d15
def wb11m1_prog_4_method_8_code_r5 : List (List Nat) := [184, 0, 109, 42, 21, 7, 2, 182, 0, 124, 87, 132, 6, 1, 167, 255, 147, 177] :: []
def wb11m1_prog_4_method_8_code_r4 : List (List Nat) := [42, 21, 7, 4, 182, 0, 124, 153, 0, 25, 42, 180, 0, 38, 28, 21, 7, 184, 0, 85, 42, 27, 28, 4, 96, 21, 7, 21, 8] :: wb11m1_prog_4_method_8_code_r5
def wb11m1_prog_4_method_8_code_r3 : List (List Nat) := [96, 54, 8, 42, 29, 21, 7, 182, 0, 120, 153, 0, 60, 42, 180, 0, 44, 2, 159, 0, 12, 21, 8, 42, 180, 0, 44, 162, 0, 43] :: wb11m1_prog_4_method_8_code_r4
def wb11m1_prog_4_method_8_code_r2 : List (List Nat) := [182, 0, 75, 162, 0, 101, 42, 180, 0, 15, 21, 5, 182, 0, 78, 21, 6, 96, 54, 7, 21, 4, 42, 21, 7, 182, 0, 117] :: wb11m1_prog_4_method_8_code_r3
def wb11m1_prog_4_method_8_code_r1 : List (List Nat) := [42, 21, 4, 181, 0, 44, 177, 42, 180, 0, 19, 27, 28, 182, 0, 72, 54, 5, 3, 54, 6, 21, 6, 42, 180, 0, 15, 21, 5] :: wb11m1_prog_4_method_8_code_r2
def wb11m1_prog_4_method_8_code_r0 : List (List Nat) := [28, 42, 180, 0, 19, 27, 182, 0, 66, 162, 0, 9, 28, 16, 12, 161, 0, 21, 42, 180, 0, 38, 42, 180, 0, 41, 184, 0, 113] :: wb11m1_prog_4_method_8_code_r1
set_option maxRecDepth 100000 in
theorem wb11m1_prog_4_method_8_code_c0 : wt_cs prog_4_method_8_code 0 wb11m1_prog_4_method_8_code_r0 := wt_cs_of (by decide +kernel)
theorem wb11m1_prog_4_method_8_code_c1 : wt_cs prog_4_method_8_code 29 wb11m1_prog_4_method_8_code_r1 := wt_cs_tl (m := 29) wb11m1_prog_4_method_8_code_c0 rfl rfl
theorem wb11m1_prog_4_method_8_code_c2 : wt_cs prog_4_method_8_code 58 wb11m1_prog_4_method_8_code_r2 := wt_cs_tl (m := 29) wb11m1_prog_4_method_8_code_c1 rfl rfl
theorem wb11m1_prog_4_method_8_code_c3 : wt_cs prog_4_method_8_code 86 wb11m1_prog_4_method_8_code_r3 := wt_cs_tl (m := 28) wb11m1_prog_4_method_8_code_c2 rfl rfl
theorem wb11m1_prog_4_method_8_code_c4 : wt_cs prog_4_method_8_code 116 wb11m1_prog_4_method_8_code_r4 := wt_cs_tl (m := 30) wb11m1_prog_4_method_8_code_c3 rfl rfl
theorem wb11m1_prog_4_method_8_code_c5 : wt_cs prog_4_method_8_code 145 wb11m1_prog_4_method_8_code_r5 := wt_cs_tl (m := 29) wb11m1_prog_4_method_8_code_c4 rfl rfl
theorem wp_rw_fitFrom_d0 : decode prog_4_method_8_code 0 = .ok (.iload_n 2, 1) := wt_op28 wb11m1_prog_4_method_8_code_c0 0 rfl rfl
theorem wp_rw_fitFrom_d1 : decode prog_4_method_8_code 1 = .ok (.aload_n 0, 1) := wt_op42 wb11m1_prog_4_method_8_code_c0 1 rfl rfl
theorem wp_rw_fitFrom_d2 : decode prog_4_method_8_code 2 = .ok (.getfield 19, 3) := wt_op180 wb11m1_prog_4_method_8_code_c0 2 rfl rfl rfl
theorem wp_rw_fitFrom_d5 : decode prog_4_method_8_code 5 = .ok (.iload_n 1, 1) := wt_op27 wb11m1_prog_4_method_8_code_c0 5 rfl rfl
theorem wp_rw_fitFrom_d6 : decode prog_4_method_8_code 6 = .ok (.invokevirtual 66, 3) := wt_op182 wb11m1_prog_4_method_8_code_c0 6 rfl rfl rfl
theorem wp_rw_fitFrom_d9 : decode prog_4_method_8_code 9 = .ok (.if_icmp .ge 9, 3) := wt_op162 wb11m1_prog_4_method_8_code_c0 9 rfl rfl rfl
theorem wp_rw_fitFrom_d12 : decode prog_4_method_8_code 12 = .ok (.iload_n 2, 1) := wt_op28 wb11m1_prog_4_method_8_code_c0 12 rfl rfl
theorem wp_rw_fitFrom_d13 : decode prog_4_method_8_code 13 = .ok (.bipush 12, 2) := wt_op16 wb11m1_prog_4_method_8_code_c0 13 rfl rfl rfl
theorem wp_rw_fitFrom_d15 : decode prog_4_method_8_code 15 = .ok (.if_icmp .lt 21, 3) := wt_op161 wb11m1_prog_4_method_8_code_c0 15 rfl rfl rfl
theorem wp_rw_fitFrom_d18 : decode prog_4_method_8_code 18 = .ok (.aload_n 0, 1) := wt_op42 wb11m1_prog_4_method_8_code_c0 18 rfl rfl
theorem wp_rw_fitFrom_d19 : decode prog_4_method_8_code 19 = .ok (.getfield 38, 3) := wt_op180 wb11m1_prog_4_method_8_code_c0 19 rfl rfl rfl
theorem wp_rw_fitFrom_d22 : decode prog_4_method_8_code 22 = .ok (.aload_n 0, 1) := wt_op42 wb11m1_prog_4_method_8_code_c0 22 rfl rfl
theorem wp_rw_fitFrom_d23 : decode prog_4_method_8_code 23 = .ok (.getfield 41, 3) := wt_op180 wb11m1_prog_4_method_8_code_c0 23 rfl rfl rfl
theorem wp_rw_fitFrom_d26 : decode prog_4_method_8_code 26 = .ok (.invokestatic 113, 3) := wt_op184 wb11m1_prog_4_method_8_code_c0 26 rfl rfl rfl
theorem wp_rw_fitFrom_d29 : decode prog_4_method_8_code 29 = .ok (.aload_n 0, 1) := wt_op42 wb11m1_prog_4_method_8_code_c1 0 rfl rfl
theorem wp_rw_fitFrom_d30 : decode prog_4_method_8_code 30 = .ok (.iload 4, 2) := wt_op21 wb11m1_prog_4_method_8_code_c1 1 rfl rfl
theorem wp_rw_fitFrom_d32 : decode prog_4_method_8_code 32 = .ok (.putfield 44, 3) := wt_op181 wb11m1_prog_4_method_8_code_c1 3 rfl rfl rfl
theorem wp_rw_fitFrom_d35 : decode prog_4_method_8_code 35 = .ok (.return_, 1) := wt_op177 wb11m1_prog_4_method_8_code_c1 6 rfl rfl
theorem wp_rw_fitFrom_d36 : decode prog_4_method_8_code 36 = .ok (.aload_n 0, 1) := wt_op42 wb11m1_prog_4_method_8_code_c1 7 rfl rfl
theorem wp_rw_fitFrom_d37 : decode prog_4_method_8_code 37 = .ok (.getfield 19, 3) := wt_op180 wb11m1_prog_4_method_8_code_c1 8 rfl rfl rfl
theorem wp_rw_fitFrom_d40 : decode prog_4_method_8_code 40 = .ok (.iload_n 1, 1) := wt_op27 wb11m1_prog_4_method_8_code_c1 11 rfl rfl
theorem wp_rw_fitFrom_d41 : decode prog_4_method_8_code 41 = .ok (.iload_n 2, 1) := wt_op28 wb11m1_prog_4_method_8_code_c1 12 rfl rfl
theorem wp_rw_fitFrom_d42 : decode prog_4_method_8_code 42 = .ok (.invokevirtual 72, 3) := wt_op182 wb11m1_prog_4_method_8_code_c1 13 rfl rfl rfl
theorem wp_rw_fitFrom_d45 : decode prog_4_method_8_code 45 = .ok (.istore 5, 2) := wt_op54 wb11m1_prog_4_method_8_code_c1 16 rfl rfl
theorem wp_rw_fitFrom_d47 : decode prog_4_method_8_code 47 = .ok (.iconst 0, 1) := wt_op3 wb11m1_prog_4_method_8_code_c1 18 rfl rfl
theorem wp_rw_fitFrom_d48 : decode prog_4_method_8_code 48 = .ok (.istore 6, 2) := wt_op54 wb11m1_prog_4_method_8_code_c1 19 rfl rfl
theorem wp_rw_fitFrom_d50 : decode prog_4_method_8_code 50 = .ok (.iload 6, 2) := wt_op21 wb11m1_prog_4_method_8_code_c1 21 rfl rfl
theorem wp_rw_fitFrom_d52 : decode prog_4_method_8_code 52 = .ok (.aload_n 0, 1) := wt_op42 wb11m1_prog_4_method_8_code_c1 23 rfl rfl
theorem wp_rw_fitFrom_d53 : decode prog_4_method_8_code 53 = .ok (.getfield 15, 3) := wt_op180 wb11m1_prog_4_method_8_code_c1 24 rfl rfl rfl
theorem wp_rw_fitFrom_d56 : decode prog_4_method_8_code 56 = .ok (.iload 5, 2) := wt_op21 wb11m1_prog_4_method_8_code_c1 27 rfl rfl
theorem wp_rw_fitFrom_d58 : decode prog_4_method_8_code 58 = .ok (.invokevirtual 75, 3) := wt_op182 wb11m1_prog_4_method_8_code_c2 0 rfl rfl rfl
theorem wp_rw_fitFrom_d61 : decode prog_4_method_8_code 61 = .ok (.if_icmp .ge 101, 3) := wt_op162 wb11m1_prog_4_method_8_code_c2 3 rfl rfl rfl
theorem wp_rw_fitFrom_d64 : decode prog_4_method_8_code 64 = .ok (.aload_n 0, 1) := wt_op42 wb11m1_prog_4_method_8_code_c2 6 rfl rfl
theorem wp_rw_fitFrom_d65 : decode prog_4_method_8_code 65 = .ok (.getfield 15, 3) := wt_op180 wb11m1_prog_4_method_8_code_c2 7 rfl rfl rfl
theorem wp_rw_fitFrom_d68 : decode prog_4_method_8_code 68 = .ok (.iload 5, 2) := wt_op21 wb11m1_prog_4_method_8_code_c2 10 rfl rfl
theorem wp_rw_fitFrom_d70 : decode prog_4_method_8_code 70 = .ok (.invokevirtual 78, 3) := wt_op182 wb11m1_prog_4_method_8_code_c2 12 rfl rfl rfl
theorem wp_rw_fitFrom_d73 : decode prog_4_method_8_code 73 = .ok (.iload 6, 2) := wt_op21 wb11m1_prog_4_method_8_code_c2 15 rfl rfl
theorem wp_rw_fitFrom_d75 : decode prog_4_method_8_code 75 = .ok (.iadd, 1) := wt_op96 wb11m1_prog_4_method_8_code_c2 17 rfl rfl
theorem wp_rw_fitFrom_d76 : decode prog_4_method_8_code 76 = .ok (.istore 7, 2) := wt_op54 wb11m1_prog_4_method_8_code_c2 18 rfl rfl
theorem wp_rw_fitFrom_d78 : decode prog_4_method_8_code 78 = .ok (.iload 4, 2) := wt_op21 wb11m1_prog_4_method_8_code_c2 20 rfl rfl
theorem wp_rw_fitFrom_d80 : decode prog_4_method_8_code 80 = .ok (.aload_n 0, 1) := wt_op42 wb11m1_prog_4_method_8_code_c2 22 rfl rfl
theorem wp_rw_fitFrom_d81 : decode prog_4_method_8_code 81 = .ok (.iload 7, 2) := wt_op21 wb11m1_prog_4_method_8_code_c2 23 rfl rfl
theorem wp_rw_fitFrom_d83 : decode prog_4_method_8_code 83 = .ok (.invokevirtual 117, 3) := wt_op182 wb11m1_prog_4_method_8_code_c2 25 rfl rfl rfl
theorem wp_rw_fitFrom_d86 : decode prog_4_method_8_code 86 = .ok (.iadd, 1) := wt_op96 wb11m1_prog_4_method_8_code_c3 0 rfl rfl
theorem wp_rw_fitFrom_d87 : decode prog_4_method_8_code 87 = .ok (.istore 8, 2) := wt_op54 wb11m1_prog_4_method_8_code_c3 1 rfl rfl
theorem wp_rw_fitFrom_d89 : decode prog_4_method_8_code 89 = .ok (.aload_n 0, 1) := wt_op42 wb11m1_prog_4_method_8_code_c3 3 rfl rfl
theorem wp_rw_fitFrom_d90 : decode prog_4_method_8_code 90 = .ok (.iload_n 3, 1) := wt_op29 wb11m1_prog_4_method_8_code_c3 4 rfl rfl
theorem wp_rw_fitFrom_d91 : decode prog_4_method_8_code 91 = .ok (.iload 7, 2) := wt_op21 wb11m1_prog_4_method_8_code_c3 5 rfl rfl
theorem wp_rw_fitFrom_d93 : decode prog_4_method_8_code 93 = .ok (.invokevirtual 120, 3) := wt_op182 wb11m1_prog_4_method_8_code_c3 7 rfl rfl rfl
theorem wp_rw_fitFrom_d96 : decode prog_4_method_8_code 96 = .ok (.ifCond .eq 60, 3) := wt_op153 wb11m1_prog_4_method_8_code_c3 10 rfl rfl rfl
theorem wp_rw_fitFrom_d99 : decode prog_4_method_8_code 99 = .ok (.aload_n 0, 1) := wt_op42 wb11m1_prog_4_method_8_code_c3 13 rfl rfl
theorem wp_rw_fitFrom_d100 : decode prog_4_method_8_code 100 = .ok (.getfield 44, 3) := wt_op180 wb11m1_prog_4_method_8_code_c3 14 rfl rfl rfl
theorem wp_rw_fitFrom_d103 : decode prog_4_method_8_code 103 = .ok (.iconst (-1), 1) := wt_op2 wb11m1_prog_4_method_8_code_c3 17 rfl rfl
theorem wp_rw_fitFrom_d104 : decode prog_4_method_8_code 104 = .ok (.if_icmp .eq 12, 3) := wt_op159 wb11m1_prog_4_method_8_code_c3 18 rfl rfl rfl
theorem wp_rw_fitFrom_d107 : decode prog_4_method_8_code 107 = .ok (.iload 8, 2) := wt_op21 wb11m1_prog_4_method_8_code_c3 21 rfl rfl
theorem wp_rw_fitFrom_d109 : decode prog_4_method_8_code 109 = .ok (.aload_n 0, 1) := wt_op42 wb11m1_prog_4_method_8_code_c3 23 rfl rfl
theorem wp_rw_fitFrom_d110 : decode prog_4_method_8_code 110 = .ok (.getfield 44, 3) := wt_op180 wb11m1_prog_4_method_8_code_c3 24 rfl rfl rfl
theorem wp_rw_fitFrom_d113 : decode prog_4_method_8_code 113 = .ok (.if_icmp .ge 43, 3) := wt_op162 wb11m1_prog_4_method_8_code_c3 27 rfl rfl rfl
theorem wp_rw_fitFrom_d116 : decode prog_4_method_8_code 116 = .ok (.aload_n 0, 1) := wt_op42 wb11m1_prog_4_method_8_code_c4 0 rfl rfl
theorem wp_rw_fitFrom_d117 : decode prog_4_method_8_code 117 = .ok (.iload 7, 2) := wt_op21 wb11m1_prog_4_method_8_code_c4 1 rfl rfl
theorem wp_rw_fitFrom_d119 : decode prog_4_method_8_code 119 = .ok (.iconst 1, 1) := wt_op4 wb11m1_prog_4_method_8_code_c4 3 rfl rfl
theorem wp_rw_fitFrom_d120 : decode prog_4_method_8_code 120 = .ok (.invokevirtual 124, 3) := wt_op182 wb11m1_prog_4_method_8_code_c4 4 rfl rfl rfl
theorem wp_rw_fitFrom_d123 : decode prog_4_method_8_code 123 = .ok (.ifCond .eq 25, 3) := wt_op153 wb11m1_prog_4_method_8_code_c4 7 rfl rfl rfl
theorem wp_rw_fitFrom_d126 : decode prog_4_method_8_code 126 = .ok (.aload_n 0, 1) := wt_op42 wb11m1_prog_4_method_8_code_c4 10 rfl rfl
theorem wp_rw_fitFrom_d127 : decode prog_4_method_8_code 127 = .ok (.getfield 38, 3) := wt_op180 wb11m1_prog_4_method_8_code_c4 11 rfl rfl rfl
theorem wp_rw_fitFrom_d130 : decode prog_4_method_8_code 130 = .ok (.iload_n 2, 1) := wt_op28 wb11m1_prog_4_method_8_code_c4 14 rfl rfl
theorem wp_rw_fitFrom_d131 : decode prog_4_method_8_code 131 = .ok (.iload 7, 2) := wt_op21 wb11m1_prog_4_method_8_code_c4 15 rfl rfl
theorem wp_rw_fitFrom_d133 : decode prog_4_method_8_code 133 = .ok (.invokestatic 85, 3) := wt_op184 wb11m1_prog_4_method_8_code_c4 17 rfl rfl rfl
theorem wp_rw_fitFrom_d136 : decode prog_4_method_8_code 136 = .ok (.aload_n 0, 1) := wt_op42 wb11m1_prog_4_method_8_code_c4 20 rfl rfl
theorem wp_rw_fitFrom_d137 : decode prog_4_method_8_code 137 = .ok (.iload_n 1, 1) := wt_op27 wb11m1_prog_4_method_8_code_c4 21 rfl rfl
theorem wp_rw_fitFrom_d138 : decode prog_4_method_8_code 138 = .ok (.iload_n 2, 1) := wt_op28 wb11m1_prog_4_method_8_code_c4 22 rfl rfl
theorem wp_rw_fitFrom_d139 : decode prog_4_method_8_code 139 = .ok (.iconst 1, 1) := wt_op4 wb11m1_prog_4_method_8_code_c4 23 rfl rfl
theorem wp_rw_fitFrom_d140 : decode prog_4_method_8_code 140 = .ok (.iadd, 1) := wt_op96 wb11m1_prog_4_method_8_code_c4 24 rfl rfl
theorem wp_rw_fitFrom_d141 : decode prog_4_method_8_code 141 = .ok (.iload 7, 2) := wt_op21 wb11m1_prog_4_method_8_code_c4 25 rfl rfl
theorem wp_rw_fitFrom_d143 : decode prog_4_method_8_code 143 = .ok (.iload 8, 2) := wt_op21 wb11m1_prog_4_method_8_code_c4 27 rfl rfl
theorem wp_rw_fitFrom_d145 : decode prog_4_method_8_code 145 = .ok (.invokestatic 109, 3) := wt_op184 wb11m1_prog_4_method_8_code_c5 0 rfl rfl rfl
theorem wp_rw_fitFrom_d148 : decode prog_4_method_8_code 148 = .ok (.aload_n 0, 1) := wt_op42 wb11m1_prog_4_method_8_code_c5 3 rfl rfl
theorem wp_rw_fitFrom_d149 : decode prog_4_method_8_code 149 = .ok (.iload 7, 2) := wt_op21 wb11m1_prog_4_method_8_code_c5 4 rfl rfl
theorem wp_rw_fitFrom_d151 : decode prog_4_method_8_code 151 = .ok (.iconst (-1), 1) := wt_op2 wb11m1_prog_4_method_8_code_c5 6 rfl rfl
theorem wp_rw_fitFrom_d152 : decode prog_4_method_8_code 152 = .ok (.invokevirtual 124, 3) := wt_op182 wb11m1_prog_4_method_8_code_c5 7 rfl rfl rfl
theorem wp_rw_fitFrom_d155 : decode prog_4_method_8_code 155 = .ok (.pop, 1) := wt_op87 wb11m1_prog_4_method_8_code_c5 10 rfl rfl
theorem wp_rw_fitFrom_d156 : decode prog_4_method_8_code 156 = .ok (.iinc 6 1, 3) := wt_op132 wb11m1_prog_4_method_8_code_c5 11 rfl rfl rfl
theorem wp_rw_fitFrom_d159 : decode prog_4_method_8_code 159 = .ok (.goto (-109), 3) := wt_op167 wb11m1_prog_4_method_8_code_c5 14 rfl rfl rfl
theorem wp_rw_fitFrom_d162 : decode prog_4_method_8_code 162 = .ok (.return_, 1) := wt_op177 wb11m1_prog_4_method_8_code_c5 17 rfl rfl
noncomputable def wp_rw_fitFrom_B18 (n : Nat) (R : Int32 × Int32 × Int32 × Int32 × wt_St → Option (wt_St)) (x4 : Int32) (σ : wt_St) : Option (wt_St) :=
  (wp_ap_copyRow n 84 85 σ).bind fun q3 =>
  some (wt_sf q3 81 9 x4)
set_option maxRecDepth 100000 in
set_option maxHeartbeats 4000000 in
theorem wp_rw_fitFrom_B18_ok {dR : Nat}  {x4 : Int32} {X : wt_X} {n : Nat} {res : wt_St} (hE : wt_Ok X prog_4_method_8_code 9 "WornType$Rows" (dR + 1) 0) (hR : wt_Rt X none none res) (hD : ∀ i, i < 108 → wt_dom (wt_xw X) i)  {R : Int32 × Int32 × Int32 × Int32 × wt_St → Option (wt_St)} (hL0 : 3 ≤ dR) (hRec : ∀ (s : Int32 × Int32 × Int32 × Int32 × wt_St) (q : wt_St), R s = some q → wt_Ctr (wt_xl X) (wt_xw X) wt_y_rw_fitFrom prog_4_method_8_code 9 none dR [.ref (wt_ad (wt_xw X) 81), .int s.1, .int s.2.1, .int s.2.2.1, .int s.2.2.2.1] s.2.2.2.2 none q) {σ : wt_St} (h : wp_rw_fitFrom_B18 n R x4 σ = some res) : wt_V X 0 σ 18 [some (.ref (wt_ad (wt_xw X) 81)), none, none, none, some (.int x4), none, none, none, none] [] := by
  unfold wp_rw_fitFrom_B18 at h
  refine wt_aload_n hE wp_rw_fitFrom_d18 rfl ?_
  refine wt_getr hE (r := 84) wt_lf_rw_38 (hD 81 (Nat.le_of_ble_eq_true rfl)) wt_L81 rfl wp_rw_fitFrom_d19 ?_
  refine wt_aload_n hE wp_rw_fitFrom_d22 rfl ?_
  refine wt_getr hE (r := 85) wt_lf_rw_41 (hD 81 (Nat.le_of_ble_eq_true rfl)) wt_L81 rfl wp_rw_fitFrom_d23 ?_
  obtain ⟨q3, hq3, h⟩ := wt_bi h
  refine wt_callSv hE [.ref (wt_ad (wt_xw X) 84), .ref (wt_ad (wt_xw X) 85)] wt_lm_rw_113 wt_ya_ap_copyRow (wp_ap_copyRow_ok (wt_lnE wt_L84) (hD 84 (Nat.le_of_ble_eq_true rfl)) (wt_lnE wt_L85) (hD 85 (Nat.le_of_ble_eq_true rfl)) hq3) (by omega) rfl rfl (Nat.le_of_ble_eq_true rfl) (Nat.zero_le _) wp_rw_fitFrom_d26 ?_
  refine wt_aload_n hE wp_rw_fitFrom_d29 rfl ?_
  refine wt_iload hE wp_rw_fitFrom_d30 rfl ?_
  refine wt_puti hE wt_lf_rw_44 (hD 81 (Nat.le_of_ble_eq_true rfl)) wt_L81 rfl (fun q hq => by cases hq; rfl) wp_rw_fitFrom_d32 ?_
  cases h
  exact wt_vret hE hR wp_rw_fitFrom_d35
noncomputable def wp_rw_fitFrom_B156 (n : Nat) (R : Int32 × Int32 × Int32 × Int32 × wt_St → Option (wt_St)) (x1 : Int32) (x2 : Int32) (x3 : Int32) (x4 : Int32) (x5 : Int32) (x6 : Int32) (K50 : Int32 × wt_St → Option (wt_St)) (σ : wt_St) : Option (wt_St) :=
  K50 ((x6 + (1 : Int32)), σ)
set_option maxRecDepth 100000 in
set_option maxHeartbeats 4000000 in
theorem wp_rw_fitFrom_B156_ok {dR : Nat}  {x1 : Int32} {x2 : Int32} {x3 : Int32} {x4 : Int32} {x5 : Int32} {x6 : Int32} {X : wt_X} {n : Nat} {res : wt_St} (hE : wt_Ok X prog_4_method_8_code 9 "WornType$Rows" (dR + 1) 0) (hR : wt_Rt X none none res) (hD : ∀ i, i < 108 → wt_dom (wt_xw X) i)  {R : Int32 × Int32 × Int32 × Int32 × wt_St → Option (wt_St)} (hL0 : 3 ≤ dR) (hRec : ∀ (s : Int32 × Int32 × Int32 × Int32 × wt_St) (q : wt_St), R s = some q → wt_Ctr (wt_xl X) (wt_xw X) wt_y_rw_fitFrom prog_4_method_8_code 9 none dR [.ref (wt_ad (wt_xw X) 81), .int s.1, .int s.2.1, .int s.2.2.1, .int s.2.2.2.1] s.2.2.2.2 none q) {K50 : Int32 × wt_St → Option (wt_St)} (hK50 : ∀ s : Int32 × wt_St, K50 s = some res → wt_V X 0 s.2 50 [some (.ref (wt_ad (wt_xw X) 81)), some (.int x1), some (.int x2), some (.int x3), some (.int x4), some (.int x5), some (.int s.1), none, none] []) {σ : wt_St} (h : wp_rw_fitFrom_B156 n R x1 x2 x3 x4 x5 x6 K50 σ = some res) : wt_V X 0 σ 156 [some (.ref (wt_ad (wt_xw X) 81)), some (.int x1), some (.int x2), some (.int x3), some (.int x4), some (.int x5), some (.int x6), none, none] [] := by
  unfold wp_rw_fitFrom_B156 at h
  refine wt_iinc hE (x6 + (1 : Int32)) [some (.ref (wt_ad (wt_xw X) 81)), some (.int x1), some (.int x2), some (.int x3), some (.int x4), some (.int x5), some (.int (x6 + (1 : Int32))), none, none] wp_rw_fitFrom_d156 (by decide) rfl rfl rfl ?_
  refine wt_goto hE 50 wp_rw_fitFrom_d159 rfl ?_
  exact hK50 ((x6 + (1 : Int32)), σ) h
noncomputable def wp_rw_fitFrom_B148 (n : Nat) (R : Int32 × Int32 × Int32 × Int32 × wt_St → Option (wt_St)) (x1 : Int32) (x2 : Int32) (x3 : Int32) (x4 : Int32) (x5 : Int32) (x6 : Int32) (x7 : Int32) (K50 : Int32 × wt_St → Option (wt_St)) (σ : wt_St) : Option (wt_St) :=
  (wp_rw_spend n x7 (-1 : Int32) σ).bind fun q15 =>
  wp_rw_fitFrom_B156 n R x1 x2 x3 x4 x5 x6 K50 q15.2
set_option maxRecDepth 100000 in
set_option maxHeartbeats 4000000 in
theorem wp_rw_fitFrom_B148_ok {dR : Nat}  {x1 : Int32} {x2 : Int32} {x3 : Int32} {x4 : Int32} {x5 : Int32} {x6 : Int32} {x7 : Int32} {X : wt_X} {n : Nat} {res : wt_St} (hE : wt_Ok X prog_4_method_8_code 9 "WornType$Rows" (dR + 1) 0) (hR : wt_Rt X none none res) (hD : ∀ i, i < 108 → wt_dom (wt_xw X) i)  {R : Int32 × Int32 × Int32 × Int32 × wt_St → Option (wt_St)} (hL0 : 3 ≤ dR) (hRec : ∀ (s : Int32 × Int32 × Int32 × Int32 × wt_St) (q : wt_St), R s = some q → wt_Ctr (wt_xl X) (wt_xw X) wt_y_rw_fitFrom prog_4_method_8_code 9 none dR [.ref (wt_ad (wt_xw X) 81), .int s.1, .int s.2.1, .int s.2.2.1, .int s.2.2.2.1] s.2.2.2.2 none q) {K50 : Int32 × wt_St → Option (wt_St)} (hK50 : ∀ s : Int32 × wt_St, K50 s = some res → wt_V X 0 s.2 50 [some (.ref (wt_ad (wt_xw X) 81)), some (.int x1), some (.int x2), some (.int x3), some (.int x4), some (.int x5), some (.int s.1), none, none] []) {σ : wt_St} (h : wp_rw_fitFrom_B148 n R x1 x2 x3 x4 x5 x6 x7 K50 σ = some res) : wt_V X 0 σ 148 [some (.ref (wt_ad (wt_xw X) 81)), some (.int x1), some (.int x2), some (.int x3), some (.int x4), some (.int x5), some (.int x6), some (.int x7), none] [] := by
  unfold wp_rw_fitFrom_B148 at h
  refine wt_aload_n hE wp_rw_fitFrom_d148 rfl ?_
  refine wt_iload hE wp_rw_fitFrom_d149 rfl ?_
  refine wt_iconst hE (-1 : Int32) wp_rw_fitFrom_d151 wt_ci_m1 ?_
  obtain ⟨q15, hq15, h⟩ := wt_bi h
  refine wt_callVi hE [.int x7, .int (-1 : Int32)] wt_lm_rw_124 wt_ya_rw_spend (wp_rw_spend_ok hD hq15) (by omega) (hD 81 (Nat.le_of_ble_eq_true rfl)) wt_L81 rfl rfl rfl (Nat.le_of_ble_eq_true rfl) (Nat.zero_le _) wp_rw_fitFrom_d152 (fun hbq15 => ?_)
  refine wt_pop hE wp_rw_fitFrom_d155 rfl ?_
  refine wt_wk [true, true, true, true, true, true, true, false, true] rfl ?_
  exact wp_rw_fitFrom_B156_ok hE hR hD hL0 hRec hK50 h
noncomputable def wp_rw_fitFrom_B116 (n : Nat) (R : Int32 × Int32 × Int32 × Int32 × wt_St → Option (wt_St)) (x1 : Int32) (x2 : Int32) (x3 : Int32) (x4 : Int32) (x5 : Int32) (x6 : Int32) (x7 : Int32) (x8 : Int32) (K50 : Int32 × wt_St → Option (wt_St)) (σ : wt_St) : Option (wt_St) :=
  (wp_rw_spend n x7 (1 : Int32) σ).bind fun q13 =>
  if q13.1 = 0 then
    wp_rw_fitFrom_B148 n R x1 x2 x3 x4 x5 x6 x7 K50 q13.2
  else
    (wp_ap_put n 84 x2 x7 q13.2).bind fun q16 =>
    (R (x1, (x2 + (1 : Int32)), x7, x8, q16)).bind fun q17 =>
    wp_rw_fitFrom_B148 n R x1 x2 x3 x4 x5 x6 x7 K50 q17
set_option maxRecDepth 100000 in
set_option maxHeartbeats 4000000 in
theorem wp_rw_fitFrom_B116_ok {dR : Nat}  {x1 : Int32} {x2 : Int32} {x3 : Int32} {x4 : Int32} {x5 : Int32} {x6 : Int32} {x7 : Int32} {x8 : Int32} {X : wt_X} {n : Nat} {res : wt_St} (hE : wt_Ok X prog_4_method_8_code 9 "WornType$Rows" (dR + 1) 0) (hR : wt_Rt X none none res) (hD : ∀ i, i < 108 → wt_dom (wt_xw X) i)  {R : Int32 × Int32 × Int32 × Int32 × wt_St → Option (wt_St)} (hL0 : 3 ≤ dR) (hRec : ∀ (s : Int32 × Int32 × Int32 × Int32 × wt_St) (q : wt_St), R s = some q → wt_Ctr (wt_xl X) (wt_xw X) wt_y_rw_fitFrom prog_4_method_8_code 9 none dR [.ref (wt_ad (wt_xw X) 81), .int s.1, .int s.2.1, .int s.2.2.1, .int s.2.2.2.1] s.2.2.2.2 none q) {K50 : Int32 × wt_St → Option (wt_St)} (hK50 : ∀ s : Int32 × wt_St, K50 s = some res → wt_V X 0 s.2 50 [some (.ref (wt_ad (wt_xw X) 81)), some (.int x1), some (.int x2), some (.int x3), some (.int x4), some (.int x5), some (.int s.1), none, none] []) {σ : wt_St} (h : wp_rw_fitFrom_B116 n R x1 x2 x3 x4 x5 x6 x7 x8 K50 σ = some res) : wt_V X 0 σ 116 [some (.ref (wt_ad (wt_xw X) 81)), some (.int x1), some (.int x2), some (.int x3), some (.int x4), some (.int x5), some (.int x6), some (.int x7), some (.int x8)] [] := by
  unfold wp_rw_fitFrom_B116 at h
  refine wt_aload_n hE wp_rw_fitFrom_d116 rfl ?_
  refine wt_iload hE wp_rw_fitFrom_d117 rfl ?_
  refine wt_iconst hE (1 : Int32) wp_rw_fitFrom_d119 wt_ci_1 ?_
  obtain ⟨q13, hq13, h⟩ := wt_bi h
  refine wt_callVi hE [.int x7, .int (1 : Int32)] wt_lm_rw_124 wt_ya_rw_spend (wp_rw_spend_ok hD hq13) (by omega) (hD 81 (Nat.le_of_ble_eq_true rfl)) wt_L81 rfl rfl rfl (Nat.le_of_ble_eq_true rfl) (Nat.zero_le _) wp_rw_fitFrom_d120 (fun hbq13 => ?_)
  refine wt_if_eq hE 148 wp_rw_fitFrom_d123 rfl (fun c14 => ?_) (fun c14 => ?_)
  · have h := wt_ip c14 h
    refine wt_wk [true, true, true, true, true, true, true, true, false] rfl ?_
    exact wp_rw_fitFrom_B148_ok hE hR hD hL0 hRec hK50 h
  · have h := wt_in c14 h
    refine wt_aload_n hE wp_rw_fitFrom_d126 rfl ?_
    refine wt_getr hE (r := 84) wt_lf_rw_38 (hD 81 (Nat.le_of_ble_eq_true rfl)) wt_L81 rfl wp_rw_fitFrom_d127 ?_
    refine wt_iload_n hE wp_rw_fitFrom_d130 rfl ?_
    refine wt_iload hE wp_rw_fitFrom_d131 rfl ?_
    obtain ⟨q16, hq16, h⟩ := wt_bi h
    refine wt_callSv hE [.ref (wt_ad (wt_xw X) 84), .int x2, .int x7] wt_lm_rw_85 wt_ya_ap_put (wp_ap_put_ok (wt_lnE wt_L84) (hD 84 (Nat.le_of_ble_eq_true rfl)) hq16) (by omega) rfl rfl (Nat.le_of_ble_eq_true rfl) (Nat.zero_le _) wp_rw_fitFrom_d133 ?_
    refine wt_aload_n hE wp_rw_fitFrom_d136 rfl ?_
    refine wt_iload_n hE wp_rw_fitFrom_d137 rfl ?_
    refine wt_iload_n hE wp_rw_fitFrom_d138 rfl ?_
    refine wt_iconst hE (1 : Int32) wp_rw_fitFrom_d139 wt_ci_1 ?_
    refine wt_iadd hE wp_rw_fitFrom_d140 ?_
    refine wt_iload hE wp_rw_fitFrom_d141 rfl ?_
    refine wt_iload hE wp_rw_fitFrom_d143 rfl ?_
    obtain ⟨q17, hq17, h⟩ := wt_bi h
    refine wt_callSv hE [.ref (wt_ad (wt_xw X) 81), .int x1, .int (x2 + (1 : Int32)), .int x7, .int x8] wt_lm_rw_109 wt_ya_rw_fitFrom (hRec _ _ hq17) (by omega) rfl rfl (Nat.le_of_ble_eq_true rfl) (Nat.zero_le _) wp_rw_fitFrom_d145 ?_
    refine wt_wk [true, true, true, true, true, true, true, true, false] rfl ?_
    exact wp_rw_fitFrom_B148_ok hE hR hD hL0 hRec hK50 h
noncomputable def wp_rw_fitFrom_B50 (n : Nat) (R : Int32 × Int32 × Int32 × Int32 × wt_St → Option (wt_St)) (x1 : Int32) (x2 : Int32) (x3 : Int32) (x4 : Int32) (x5 : Int32) (K50 : Int32 × wt_St → Option (wt_St)) (s : Int32 × wt_St) : Option (wt_St) :=
  (wp_tg_membersLike n 20 x5 s.2).bind fun q6 =>
  if q6.1 ≤ s.1 then
    some q6.2
  else
    (wp_tg_firstLike n 20 x5 q6.2).bind fun q8 =>
    (wp_rw_priceOf n (q8.1 + s.1) q8.2).bind fun q9 =>
    (wp_rw_mayFollow n x3 (q8.1 + s.1) q9.2).bind fun q10 =>
    if q10.1 = 0 then
      wp_rw_fitFrom_B156 n R x1 x2 x3 x4 x5 s.1 K50 q10.2
    else
      if (wt_gf q10.2 81 9) = (-1 : Int32) then
        wp_rw_fitFrom_B116 n R x1 x2 x3 x4 x5 s.1 (q8.1 + s.1) (x4 + q9.1) K50 q10.2
      else
        if (wt_gf q10.2 81 9) ≤ (x4 + q9.1) then
          wp_rw_fitFrom_B156 n R x1 x2 x3 x4 x5 s.1 K50 q10.2
        else
          wp_rw_fitFrom_B116 n R x1 x2 x3 x4 x5 s.1 (q8.1 + s.1) (x4 + q9.1) K50 q10.2
set_option maxRecDepth 100000 in
set_option maxHeartbeats 4000000 in
theorem wp_rw_fitFrom_B50_ok {dR : Nat}  {x1 : Int32} {x2 : Int32} {x3 : Int32} {x4 : Int32} {x5 : Int32} {X : wt_X} {n : Nat} {res : wt_St} (hE : wt_Ok X prog_4_method_8_code 9 "WornType$Rows" (dR + 1) 0) (hR : wt_Rt X none none res) (hD : ∀ i, i < 108 → wt_dom (wt_xw X) i)  {R : Int32 × Int32 × Int32 × Int32 × wt_St → Option (wt_St)} (hL0 : 3 ≤ dR) (hRec : ∀ (s : Int32 × Int32 × Int32 × Int32 × wt_St) (q : wt_St), R s = some q → wt_Ctr (wt_xl X) (wt_xw X) wt_y_rw_fitFrom prog_4_method_8_code 9 none dR [.ref (wt_ad (wt_xw X) 81), .int s.1, .int s.2.1, .int s.2.2.1, .int s.2.2.2.1] s.2.2.2.2 none q) {K50 : Int32 × wt_St → Option (wt_St)} (hK50 : ∀ s : Int32 × wt_St, K50 s = some res → wt_V X 0 s.2 50 [some (.ref (wt_ad (wt_xw X) 81)), some (.int x1), some (.int x2), some (.int x3), some (.int x4), some (.int x5), some (.int s.1), none, none] []) {s : Int32 × wt_St} (h : wp_rw_fitFrom_B50 n R x1 x2 x3 x4 x5 K50 s = some res) : wt_V X 0 s.2 50 [some (.ref (wt_ad (wt_xw X) 81)), some (.int x1), some (.int x2), some (.int x3), some (.int x4), some (.int x5), some (.int s.1), none, none] [] := by
  unfold wp_rw_fitFrom_B50 at h
  refine wt_iload hE wp_rw_fitFrom_d50 rfl ?_
  refine wt_aload_n hE wp_rw_fitFrom_d52 rfl ?_
  refine wt_getr hE (r := 20) wt_lf_rw_15 (hD 81 (Nat.le_of_ble_eq_true rfl)) wt_L81 rfl wp_rw_fitFrom_d53 ?_
  refine wt_iload hE wp_rw_fitFrom_d56 rfl ?_
  obtain ⟨q6, hq6, h⟩ := wt_bi h
  refine wt_callVi hE [.int x5] wt_lm_rw_75 wt_ya_tg_membersLike (wp_tg_membersLike_ok wt_isTongue_20 (fun j hj => hD (20 + j) (by omega)) hq6) (by omega) (hD 20 (Nat.le_of_ble_eq_true rfl)) wt_L20 rfl rfl rfl (Nat.le_of_ble_eq_true rfl) (Nat.zero_le _) wp_rw_fitFrom_d58 (fun hbq6 => ?_)
  refine wt_icmp_ge hE 162 wp_rw_fitFrom_d61 rfl (fun c7 => ?_) (fun c7 => ?_)
  · have h := wt_ip c7 h
    cases h
    exact wt_vret hE hR wp_rw_fitFrom_d162
  · have h := wt_in c7 h
    refine wt_aload_n hE wp_rw_fitFrom_d64 rfl ?_
    refine wt_getr hE (r := 20) wt_lf_rw_15 (hD 81 (Nat.le_of_ble_eq_true rfl)) wt_L81 rfl wp_rw_fitFrom_d65 ?_
    refine wt_iload hE wp_rw_fitFrom_d68 rfl ?_
    obtain ⟨q8, hq8, h⟩ := wt_bi h
    refine wt_callVi hE [.int x5] wt_lm_rw_78 wt_ya_tg_firstLike (wp_tg_firstLike_ok wt_isTongue_20 (fun j hj => hD (20 + j) (by omega)) hq8) (by omega) (hD 20 (Nat.le_of_ble_eq_true rfl)) wt_L20 rfl rfl rfl (Nat.le_of_ble_eq_true rfl) (Nat.zero_le _) wp_rw_fitFrom_d70 (fun hbq8 => ?_)
    refine wt_iload hE wp_rw_fitFrom_d73 rfl ?_
    refine wt_iadd hE wp_rw_fitFrom_d75 ?_
    refine wt_istore hE [some (.ref (wt_ad (wt_xw X) 81)), some (.int x1), some (.int x2), some (.int x3), some (.int x4), some (.int x5), some (.int s.1), some (.int (q8.1 + s.1)), none] wp_rw_fitFrom_d76 (Nat.le_of_ble_eq_true rfl) rfl ?_
    refine wt_iload hE wp_rw_fitFrom_d78 rfl ?_
    refine wt_aload_n hE wp_rw_fitFrom_d80 rfl ?_
    refine wt_iload hE wp_rw_fitFrom_d81 rfl ?_
    obtain ⟨q9, hq9, h⟩ := wt_bi h
    refine wt_callVi hE [.int (q8.1 + s.1)] wt_lm_rw_117 wt_ya_rw_priceOf (wp_rw_priceOf_ok hD hq9) (by omega) (hD 81 (Nat.le_of_ble_eq_true rfl)) wt_L81 rfl rfl rfl (Nat.le_of_ble_eq_true rfl) (Nat.zero_le _) wp_rw_fitFrom_d83 (fun hbq9 => ?_)
    refine wt_iadd hE wp_rw_fitFrom_d86 ?_
    refine wt_istore hE [some (.ref (wt_ad (wt_xw X) 81)), some (.int x1), some (.int x2), some (.int x3), some (.int x4), some (.int x5), some (.int s.1), some (.int (q8.1 + s.1)), some (.int (x4 + q9.1))] wp_rw_fitFrom_d87 (Nat.le_of_ble_eq_true rfl) rfl ?_
    refine wt_aload_n hE wp_rw_fitFrom_d89 rfl ?_
    refine wt_iload_n hE wp_rw_fitFrom_d90 rfl ?_
    refine wt_iload hE wp_rw_fitFrom_d91 rfl ?_
    obtain ⟨q10, hq10, h⟩ := wt_bi h
    refine wt_callVi hE [.int x3, .int (q8.1 + s.1)] wt_lm_rw_120 wt_ya_rw_mayFollow (wp_rw_mayFollow_ok hD hq10) (by omega) (hD 81 (Nat.le_of_ble_eq_true rfl)) wt_L81 rfl rfl rfl (Nat.le_of_ble_eq_true rfl) (Nat.zero_le _) wp_rw_fitFrom_d93 (fun hbq10 => ?_)
    refine wt_if_eq hE 156 wp_rw_fitFrom_d96 rfl (fun c11 => ?_) (fun c11 => ?_)
    · have h := wt_ip c11 h
      refine wt_wk [true, true, true, true, true, true, true, false, false] rfl ?_
      exact wp_rw_fitFrom_B156_ok hE hR hD hL0 hRec hK50 h
    · have h := wt_in c11 h
      refine wt_aload_n hE wp_rw_fitFrom_d99 rfl ?_
      refine wt_geti hE wt_lf_rw_44 (hD 81 (Nat.le_of_ble_eq_true rfl)) wt_L81 rfl wp_rw_fitFrom_d100 ?_
      refine wt_iconst hE (-1 : Int32) wp_rw_fitFrom_d103 wt_ci_m1 ?_
      refine wt_icmp_eq hE 116 wp_rw_fitFrom_d104 rfl (fun c12 => ?_) (fun c12 => ?_)
      · have h := wt_ip c12 h
        exact wp_rw_fitFrom_B116_ok hE hR hD hL0 hRec hK50 h
      · have h := wt_in c12 h
        refine wt_iload hE wp_rw_fitFrom_d107 rfl ?_
        refine wt_aload_n hE wp_rw_fitFrom_d109 rfl ?_
        refine wt_geti hE wt_lf_rw_44 (hD 81 (Nat.le_of_ble_eq_true rfl)) wt_L81 rfl wp_rw_fitFrom_d110 ?_
        refine wt_icmp_ge hE 156 wp_rw_fitFrom_d113 rfl (fun c18 => ?_) (fun c18 => ?_)
        · have h := wt_ip c18 h
          refine wt_wk [true, true, true, true, true, true, true, false, false] rfl ?_
          exact wp_rw_fitFrom_B156_ok hE hR hD hL0 hRec hK50 h
        · have h := wt_in c18 h
          exact wp_rw_fitFrom_B116_ok hE hR hD hL0 hRec hK50 h
noncomputable def wp_rw_fitFrom_b (n : Nat) (R : Int32 × Int32 × Int32 × Int32 × wt_St → Option (wt_St)) (x1 : Int32) (x2 : Int32) (x3 : Int32) (x4 : Int32) (σ : wt_St) : Option (wt_St) :=
  (wp_tx_lengthOf n x1 σ).bind fun q1 =>
  if q1.1 ≤ x2 then
    wp_rw_fitFrom_B18 n R x4 q1.2
  else
    if x2 < (12 : Int32) then
      (wp_tx_wordAt n x1 x2 q1.2).bind fun q5 =>
      wt_it (wp_rw_fitFrom_B50 n R x1 x2 x3 x4 q5.1) n ((0 : Int32), q5.2)
    else
      wp_rw_fitFrom_B18 n R x4 q1.2
set_option maxRecDepth 100000 in
set_option maxHeartbeats 4000000 in
theorem wp_rw_fitFrom_b_ok {l : Launch} {w : wt_E} {n : Nat} {x1 : Int32} {x2 : Int32} {x3 : Int32} {x4 : Int32} (hD : ∀ i, i < 108 → wt_dom w i) {R : Int32 × Int32 × Int32 × Int32 × wt_St → Option (wt_St)} {dR : Nat} (hL0 : 3 ≤ dR) (hRec : ∀ (s : Int32 × Int32 × Int32 × Int32 × wt_St) (q : wt_St), R s = some q → wt_Ctr l w wt_y_rw_fitFrom prog_4_method_8_code 9 none dR [.ref (wt_ad w 81), .int s.1, .int s.2.1, .int s.2.2.1, .int s.2.2.2.1] s.2.2.2.2 none q) {σ : wt_St} {q : wt_St} (h : wp_rw_fitFrom_b n R x1 x2 x3 x4 σ = some q) : wt_Ctr l w wt_y_rw_fitFrom prog_4_method_8_code 9 none (dR + 1) [.ref (wt_ad w 81), .int x1, .int x2, .int x3, .int x4] σ none q := by
  refine wt_ctr wt_pl_rw_fitFrom rfl (Nat.le_of_ble_eq_true rfl) [some (.ref (wt_ad w 81)), some (.int x1), some (.int x2), some (.int x3), some (.int x4), none, none, none, none] rfl ?_
  intro X hXl hXw hE hR
  subst hXl
  subst hXw
  have hE : wt_Ok X prog_4_method_8_code 9 "WornType$Rows" (dR + 1) 0 := hE
  unfold wp_rw_fitFrom_b at h
  refine wt_iload_n hE wp_rw_fitFrom_d0 rfl ?_
  refine wt_aload_n hE wp_rw_fitFrom_d1 rfl ?_
  refine wt_getr hE (r := 34) wt_lf_rw_19 (hD 81 (Nat.le_of_ble_eq_true rfl)) wt_L81 rfl wp_rw_fitFrom_d2 ?_
  refine wt_iload_n hE wp_rw_fitFrom_d5 rfl ?_
  obtain ⟨q1, hq1, h⟩ := wt_bi h
  refine wt_callVi hE [.int x1] wt_lm_rw_66 wt_ya_tx_lengthOf (wp_tx_lengthOf_ok hD hq1) (by omega) (hD 34 (Nat.le_of_ble_eq_true rfl)) wt_L34 rfl rfl rfl (Nat.le_of_ble_eq_true rfl) (Nat.zero_le _) wp_rw_fitFrom_d6 (fun hbq1 => ?_)
  refine wt_icmp_ge hE 18 wp_rw_fitFrom_d9 rfl (fun c2 => ?_) (fun c2 => ?_)
  · have h := wt_ip c2 h
    refine wt_wk [true, false, false, false, true, true, true, true, true] rfl ?_
    exact wp_rw_fitFrom_B18_ok hE hR hD hL0 hRec h
  · have h := wt_in c2 h
    refine wt_iload_n hE wp_rw_fitFrom_d12 rfl ?_
    refine wt_bipush hE (12 : Int32) wp_rw_fitFrom_d13 wt_cb_12 ?_
    refine wt_icmp_lt hE 36 wp_rw_fitFrom_d15 rfl (fun c4 => ?_) (fun c4 => ?_)
    · have h := wt_ip c4 h
      refine wt_aload_n hE wp_rw_fitFrom_d36 rfl ?_
      refine wt_getr hE (r := 34) wt_lf_rw_19 (hD 81 (Nat.le_of_ble_eq_true rfl)) wt_L81 rfl wp_rw_fitFrom_d37 ?_
      refine wt_iload_n hE wp_rw_fitFrom_d40 rfl ?_
      refine wt_iload_n hE wp_rw_fitFrom_d41 rfl ?_
      obtain ⟨q5, hq5, h⟩ := wt_bi h
      refine wt_callVi hE [.int x1, .int x2] wt_lm_rw_72 wt_ya_tx_wordAt (wp_tx_wordAt_ok hD hq5) (by omega) (hD 34 (Nat.le_of_ble_eq_true rfl)) wt_L34 rfl rfl rfl (Nat.le_of_ble_eq_true rfl) (Nat.zero_le _) wp_rw_fitFrom_d42 (fun hbq5 => ?_)
      refine wt_istore hE [some (.ref (wt_ad (wt_xw X) 81)), some (.int x1), some (.int x2), some (.int x3), some (.int x4), some (.int q5.1), none, none, none] wp_rw_fitFrom_d45 (Nat.le_of_ble_eq_true rfl) rfl ?_
      refine wt_iconst hE (0 : Int32) wp_rw_fitFrom_d47 wt_ci_0 ?_
      refine wt_istore hE [some (.ref (wt_ad (wt_xw X) 81)), some (.int x1), some (.int x2), some (.int x3), some (.int x4), some (.int q5.1), some (.int (0 : Int32)), none, none] wp_rw_fitFrom_d48 (Nat.le_of_ble_eq_true rfl) rfl ?_
      exact wt_it_ind (fun z => wt_V X 0 z.2 50 [some (.ref (wt_ad (wt_xw X) 81)), some (.int x1), some (.int x2), some (.int x3), some (.int x4), some (.int q5.1), some (.int z.1), none, none] []) (fun K hK z h => wp_rw_fitFrom_B50_ok hE hR hD hL0 hRec hK h) n ((0 : Int32), q5.2) h
    · have h := wt_in c4 h
      refine wt_wk [true, false, false, false, true, true, true, true, true] rfl ?_
      exact wp_rw_fitFrom_B18_ok hE hR hD hL0 hRec h
noncomputable def wp_rw_fitFrom (n : Nat) (x1 : Int32) (x2 : Int32) (x3 : Int32) (x4 : Int32) (σ : wt_St) : Option (wt_St) := wt_it (fun R s => wp_rw_fitFrom_b n R s.1 s.2.1 s.2.2.1 s.2.2.2.1 s.2.2.2.2) 16 (x1, x2, x3, x4, σ)
set_option maxRecDepth 100000 in
theorem wp_rw_fitFrom_it {l : Launch} {w : wt_E} {n : Nat} (hD : ∀ i, i < 108 → wt_dom w i) : ∀ (k : Nat) (s : Int32 × Int32 × Int32 × Int32 × wt_St) (q : wt_St), wt_it (fun R s => wp_rw_fitFrom_b n R s.1 s.2.1 s.2.2.1 s.2.2.2.1 s.2.2.2.2) k s = some q → wt_Ctr l w wt_y_rw_fitFrom prog_4_method_8_code 9 none (3 + k) [.ref (wt_ad w 81), .int s.1, .int s.2.1, .int s.2.2.1, .int s.2.2.2.1] s.2.2.2.2 none q := by
  intro k
  induction k with
  | zero => intro s q  h; cases h
  | succ k ih =>
    intro s q  h
    exact wp_rw_fitFrom_b_ok hD (R := wt_it (fun R s => wp_rw_fitFrom_b n R s.1 s.2.1 s.2.2.1 s.2.2.2.1 s.2.2.2.2) k) (dR := 3 + k) (by omega) ih h
set_option maxRecDepth 100000 in
theorem wp_rw_fitFrom_ok {l : Launch} {w : wt_E} {n : Nat} {x1 : Int32} {x2 : Int32} {x3 : Int32} {x4 : Int32} (hD : ∀ i, i < 108 → wt_dom w i) {σ : wt_St} {q : wt_St} (h : wp_rw_fitFrom n x1 x2 x3 x4 σ = some q) : wt_Ctr l w wt_y_rw_fitFrom prog_4_method_8_code 9 none 19 [.ref (wt_ad w 81), .int x1, .int x2, .int x3, .int x4] σ none q := by
  unfold wp_rw_fitFrom at h
  exact wp_rw_fitFrom_it hD 16 (x1, x2, x3, x4, σ) q h
def wb11m1_prog_4_method_7_code_r1 : List (List Nat) := [182, 0, 103, 79, 132, 3, 1, 167, 255, 222, 42, 2, 181, 0, 44, 42, 27, 3, 2, 3, 184, 0, 109, 177] :: []
def wb11m1_prog_4_method_7_code_r0 : List (List Nat) := [3, 62, 29, 42, 180, 0, 35, 190, 162, 0, 31, 42, 180, 0, 35, 29, 42, 180, 0, 27, 29, 28, 42, 180, 0, 23, 180, 0, 98] :: wb11m1_prog_4_method_7_code_r1
set_option maxRecDepth 100000 in
theorem wb11m1_prog_4_method_7_code_c0 : wt_cs prog_4_method_7_code 0 wb11m1_prog_4_method_7_code_r0 := wt_cs_of (by decide +kernel)
theorem wb11m1_prog_4_method_7_code_c1 : wt_cs prog_4_method_7_code 29 wb11m1_prog_4_method_7_code_r1 := wt_cs_tl (m := 29) wb11m1_prog_4_method_7_code_c0 rfl rfl
theorem wp_rw_findFitting_d0 : decode prog_4_method_7_code 0 = .ok (.iconst 0, 1) := wt_op3 wb11m1_prog_4_method_7_code_c0 0 rfl rfl
theorem wp_rw_findFitting_d1 : decode prog_4_method_7_code 1 = .ok (.istore_n 3, 1) := wt_op62 wb11m1_prog_4_method_7_code_c0 1 rfl rfl
theorem wp_rw_findFitting_d2 : decode prog_4_method_7_code 2 = .ok (.iload_n 3, 1) := wt_op29 wb11m1_prog_4_method_7_code_c0 2 rfl rfl
theorem wp_rw_findFitting_d3 : decode prog_4_method_7_code 3 = .ok (.aload_n 0, 1) := wt_op42 wb11m1_prog_4_method_7_code_c0 3 rfl rfl
theorem wp_rw_findFitting_d4 : decode prog_4_method_7_code 4 = .ok (.getfield 35, 3) := wt_op180 wb11m1_prog_4_method_7_code_c0 4 rfl rfl rfl
theorem wp_rw_findFitting_d7 : decode prog_4_method_7_code 7 = .ok (.arraylength, 1) := wt_op190 wb11m1_prog_4_method_7_code_c0 7 rfl rfl
theorem wp_rw_findFitting_d8 : decode prog_4_method_7_code 8 = .ok (.if_icmp .ge 31, 3) := wt_op162 wb11m1_prog_4_method_7_code_c0 8 rfl rfl rfl
theorem wp_rw_findFitting_d11 : decode prog_4_method_7_code 11 = .ok (.aload_n 0, 1) := wt_op42 wb11m1_prog_4_method_7_code_c0 11 rfl rfl
theorem wp_rw_findFitting_d12 : decode prog_4_method_7_code 12 = .ok (.getfield 35, 3) := wt_op180 wb11m1_prog_4_method_7_code_c0 12 rfl rfl rfl
theorem wp_rw_findFitting_d15 : decode prog_4_method_7_code 15 = .ok (.iload_n 3, 1) := wt_op29 wb11m1_prog_4_method_7_code_c0 15 rfl rfl
theorem wp_rw_findFitting_d16 : decode prog_4_method_7_code 16 = .ok (.aload_n 0, 1) := wt_op42 wb11m1_prog_4_method_7_code_c0 16 rfl rfl
theorem wp_rw_findFitting_d17 : decode prog_4_method_7_code 17 = .ok (.getfield 27, 3) := wt_op180 wb11m1_prog_4_method_7_code_c0 17 rfl rfl rfl
theorem wp_rw_findFitting_d20 : decode prog_4_method_7_code 20 = .ok (.iload_n 3, 1) := wt_op29 wb11m1_prog_4_method_7_code_c0 20 rfl rfl
theorem wp_rw_findFitting_d21 : decode prog_4_method_7_code 21 = .ok (.iload_n 2, 1) := wt_op28 wb11m1_prog_4_method_7_code_c0 21 rfl rfl
theorem wp_rw_findFitting_d22 : decode prog_4_method_7_code 22 = .ok (.aload_n 0, 1) := wt_op42 wb11m1_prog_4_method_7_code_c0 22 rfl rfl
theorem wp_rw_findFitting_d23 : decode prog_4_method_7_code 23 = .ok (.getfield 23, 3) := wt_op180 wb11m1_prog_4_method_7_code_c0 23 rfl rfl rfl
theorem wp_rw_findFitting_d26 : decode prog_4_method_7_code 26 = .ok (.getfield 98, 3) := wt_op180 wb11m1_prog_4_method_7_code_c0 26 rfl rfl rfl
theorem wp_rw_findFitting_d29 : decode prog_4_method_7_code 29 = .ok (.invokevirtual 103, 3) := wt_op182 wb11m1_prog_4_method_7_code_c1 0 rfl rfl rfl
theorem wp_rw_findFitting_d32 : decode prog_4_method_7_code 32 = .ok (.iastore, 1) := wt_op79 wb11m1_prog_4_method_7_code_c1 3 rfl rfl
theorem wp_rw_findFitting_d33 : decode prog_4_method_7_code 33 = .ok (.iinc 3 1, 3) := wt_op132 wb11m1_prog_4_method_7_code_c1 4 rfl rfl rfl
theorem wp_rw_findFitting_d36 : decode prog_4_method_7_code 36 = .ok (.goto (-34), 3) := wt_op167 wb11m1_prog_4_method_7_code_c1 7 rfl rfl rfl
theorem wp_rw_findFitting_d39 : decode prog_4_method_7_code 39 = .ok (.aload_n 0, 1) := wt_op42 wb11m1_prog_4_method_7_code_c1 10 rfl rfl
theorem wp_rw_findFitting_d40 : decode prog_4_method_7_code 40 = .ok (.iconst (-1), 1) := wt_op2 wb11m1_prog_4_method_7_code_c1 11 rfl rfl
theorem wp_rw_findFitting_d41 : decode prog_4_method_7_code 41 = .ok (.putfield 44, 3) := wt_op181 wb11m1_prog_4_method_7_code_c1 12 rfl rfl rfl
theorem wp_rw_findFitting_d44 : decode prog_4_method_7_code 44 = .ok (.aload_n 0, 1) := wt_op42 wb11m1_prog_4_method_7_code_c1 15 rfl rfl
theorem wp_rw_findFitting_d45 : decode prog_4_method_7_code 45 = .ok (.iload_n 1, 1) := wt_op27 wb11m1_prog_4_method_7_code_c1 16 rfl rfl
theorem wp_rw_findFitting_d46 : decode prog_4_method_7_code 46 = .ok (.iconst 0, 1) := wt_op3 wb11m1_prog_4_method_7_code_c1 17 rfl rfl
theorem wp_rw_findFitting_d47 : decode prog_4_method_7_code 47 = .ok (.iconst (-1), 1) := wt_op2 wb11m1_prog_4_method_7_code_c1 18 rfl rfl
theorem wp_rw_findFitting_d48 : decode prog_4_method_7_code 48 = .ok (.iconst 0, 1) := wt_op3 wb11m1_prog_4_method_7_code_c1 19 rfl rfl
theorem wp_rw_findFitting_d49 : decode prog_4_method_7_code 49 = .ok (.invokestatic 109, 3) := wt_op184 wb11m1_prog_4_method_7_code_c1 20 rfl rfl rfl
theorem wp_rw_findFitting_d52 : decode prog_4_method_7_code 52 = .ok (.return_, 1) := wt_op177 wb11m1_prog_4_method_7_code_c1 23 rfl rfl
noncomputable def wp_rw_findFitting_B2 (n : Nat) (x1 : Int32) (x2 : Int32) (K2 : Int32 × wt_St → Option (wt_St)) (s : Int32 × wt_St) : Option (wt_St) :=
  if (26 : Int32) ≤ s.1 then
    (wp_rw_fitFrom n x1 (0 : Int32) (-1 : Int32) (0 : Int32) (wt_sf s.2 81 9 (-1 : Int32))).bind fun q2 =>
    some q2
  else
    (wp_sk_ready n 40 s.1 x2 s.2).bind fun q3 =>
    if s.1 < 0 ∨ 26 ≤ Int32.toNatClampNeg s.1 then none else
    K2 ((s.1 + (1 : Int32)), (wt_sa q3.2 83 (Int32.toNatClampNeg s.1) q3.1))
set_option maxRecDepth 100000 in
set_option maxHeartbeats 4000000 in
theorem wp_rw_findFitting_B2_ok  {x1 : Int32} {x2 : Int32} {X : wt_X} {n : Nat} {res : wt_St} (hE : wt_Ok X prog_4_method_7_code 4 "WornType$Rows" 20 0) (hR : wt_Rt X none none res) (hD : ∀ i, i < 108 → wt_dom (wt_xw X) i)  {K2 : Int32 × wt_St → Option (wt_St)} (hK2 : ∀ s : Int32 × wt_St, K2 s = some res → wt_V X 0 s.2 2 [some (.ref (wt_ad (wt_xw X) 81)), some (.int x1), some (.int x2), some (.int s.1)] []) {s : Int32 × wt_St} (h : wp_rw_findFitting_B2 n x1 x2 K2 s = some res) : wt_V X 0 s.2 2 [some (.ref (wt_ad (wt_xw X) 81)), some (.int x1), some (.int x2), some (.int s.1)] [] := by
  unfold wp_rw_findFitting_B2 at h
  refine wt_iload_n hE wp_rw_findFitting_d2 rfl ?_
  refine wt_aload_n hE wp_rw_findFitting_d3 rfl ?_
  refine wt_getr hE (r := 83) wt_lf_rw_35 (hD 81 (Nat.le_of_ble_eq_true rfl)) wt_L81 rfl wp_rw_findFitting_d4 ?_
  refine wt_alen hE (26 : Int32) (hD 83 (Nat.le_of_ble_eq_true rfl)) wt_L83 rfl wp_rw_findFitting_d7 ?_
  refine wt_icmp_ge hE 39 wp_rw_findFitting_d8 rfl (fun c1 => ?_) (fun c1 => ?_)
  · have h := wt_ip c1 h
    refine wt_aload_n hE wp_rw_findFitting_d39 rfl ?_
    refine wt_iconst hE (-1 : Int32) wp_rw_findFitting_d40 wt_ci_m1 ?_
    refine wt_puti hE wt_lf_rw_44 (hD 81 (Nat.le_of_ble_eq_true rfl)) wt_L81 rfl (fun q hq => by cases hq; rfl) wp_rw_findFitting_d41 ?_
    refine wt_aload_n hE wp_rw_findFitting_d44 rfl ?_
    refine wt_iload_n hE wp_rw_findFitting_d45 rfl ?_
    refine wt_iconst hE (0 : Int32) wp_rw_findFitting_d46 wt_ci_0 ?_
    refine wt_iconst hE (-1 : Int32) wp_rw_findFitting_d47 wt_ci_m1 ?_
    refine wt_iconst hE (0 : Int32) wp_rw_findFitting_d48 wt_ci_0 ?_
    obtain ⟨q2, hq2, h⟩ := wt_bi h
    refine wt_callSv hE [.ref (wt_ad (wt_xw X) 81), .int x1, .int (0 : Int32), .int (-1 : Int32), .int (0 : Int32)] wt_lm_rw_109 wt_ya_rw_fitFrom (wp_rw_fitFrom_ok hD hq2) (by omega) rfl rfl (Nat.le_of_ble_eq_true rfl) (Nat.zero_le _) wp_rw_findFitting_d49 ?_
    cases h
    exact wt_vret hE hR wp_rw_findFitting_d52
  · have h := wt_in c1 h
    refine wt_aload_n hE wp_rw_findFitting_d11 rfl ?_
    refine wt_getr hE (r := 83) wt_lf_rw_35 (hD 81 (Nat.le_of_ble_eq_true rfl)) wt_L81 rfl wp_rw_findFitting_d12 ?_
    refine wt_iload_n hE wp_rw_findFitting_d15 rfl ?_
    refine wt_aload_n hE wp_rw_findFitting_d16 rfl ?_
    refine wt_getr hE (r := 76) wt_lf_rw_27 (hD 81 (Nat.le_of_ble_eq_true rfl)) wt_L81 rfl wp_rw_findFitting_d17 ?_
    refine wt_iload_n hE wp_rw_findFitting_d20 rfl ?_
    refine wt_iload_n hE wp_rw_findFitting_d21 rfl ?_
    refine wt_aload_n hE wp_rw_findFitting_d22 rfl ?_
    refine wt_getr hE (r := 39) wt_lf_rw_23 (hD 81 (Nat.le_of_ble_eq_true rfl)) wt_L81 rfl wp_rw_findFitting_d23 ?_
    refine wt_getr hE (r := 40) wt_lf_rw_98 (hD 39 (Nat.le_of_ble_eq_true rfl)) wt_L39 rfl wp_rw_findFitting_d26 ?_
    obtain ⟨q3, hq3, h⟩ := wt_bi h
    refine wt_callVi hE [.int s.1, .int x2, .ref (wt_ad (wt_xw X) 40)] wt_lm_rw_103 wt_ya_sk_ready (wp_sk_ready_ok hD (wt_lnE wt_L40) (hD 40 (Nat.le_of_ble_eq_true rfl)) hq3) (by omega) (hD 76 (Nat.le_of_ble_eq_true rfl)) wt_L76 rfl rfl rfl (Nat.le_of_ble_eq_true rfl) (Nat.zero_le _) wp_rw_findFitting_d29 (fun hbq3 => ?_)
    obtain ⟨g4, h⟩ := wt_gd h
    refine wt_iast hE (hD 83 (Nat.le_of_ble_eq_true rfl)) wt_L83 g4 wp_rw_findFitting_d32 ?_
    refine wt_iinc hE (s.1 + (1 : Int32)) [some (.ref (wt_ad (wt_xw X) 81)), some (.int x1), some (.int x2), some (.int (s.1 + (1 : Int32)))] wp_rw_findFitting_d33 (by decide) rfl rfl rfl ?_
    refine wt_goto hE 2 wp_rw_findFitting_d36 rfl ?_
    exact hK2 ((s.1 + (1 : Int32)), (wt_sa q3.2 83 (Int32.toNatClampNeg s.1) q3.1)) h
noncomputable def wp_rw_findFitting (n : Nat) (x1 : Int32) (x2 : Int32) (σ : wt_St) : Option (wt_St) :=
  wt_it (wp_rw_findFitting_B2 n x1 x2) n ((0 : Int32), σ)
set_option maxRecDepth 100000 in
set_option maxHeartbeats 4000000 in
theorem wp_rw_findFitting_ok {l : Launch} {w : wt_E} {n : Nat} {x1 : Int32} {x2 : Int32} (hD : ∀ i, i < 108 → wt_dom w i) {σ : wt_St} {q : wt_St} (h : wp_rw_findFitting n x1 x2 σ = some q) : wt_Ctr l w wt_y_rw_findFitting prog_4_method_7_code 4 none 20 [.ref (wt_ad w 81), .int x1, .int x2] σ none q := by
  refine wt_ctr wt_pl_rw_findFitting rfl (Nat.le_of_ble_eq_true rfl) [some (.ref (wt_ad w 81)), some (.int x1), some (.int x2), none] rfl ?_
  intro X hXl hXw hE hR
  subst hXl
  subst hXw
  have hE : wt_Ok X prog_4_method_7_code 4 "WornType$Rows" 20 0 := hE
  unfold wp_rw_findFitting at h
  refine wt_iconst hE (0 : Int32) wp_rw_findFitting_d0 wt_ci_0 ?_
  refine wt_istore_n hE [some (.ref (wt_ad (wt_xw X) 81)), some (.int x1), some (.int x2), some (.int (0 : Int32))] wp_rw_findFitting_d1 (by decide) rfl ?_
  exact wt_it_ind (fun z => wt_V X 0 z.2 2 [some (.ref (wt_ad (wt_xw X) 81)), some (.int x1), some (.int x2), some (.int z.1)] []) (fun K hK z h => wp_rw_findFitting_B2_ok hE hR hD hK h) n ((0 : Int32), σ) h
def wb11m1_prog_4_method_3_code_r1 : List (List Nat) := [162, 0, 14, 42, 180, 0, 41, 28, 184, 0, 53, 167, 0, 4, 2, 172] :: []
def wb11m1_prog_4_method_3_code_r0 : List (List Nat) := [42, 180, 0, 44, 2, 159, 0, 7, 29, 154, 0, 8, 42, 180, 0, 44, 172, 28, 155, 0, 26, 28, 42, 180, 0, 19, 27, 182, 0, 66] :: wb11m1_prog_4_method_3_code_r1
set_option maxRecDepth 100000 in
theorem wb11m1_prog_4_method_3_code_c0 : wt_cs prog_4_method_3_code 0 wb11m1_prog_4_method_3_code_r0 := wt_cs_of (by decide +kernel)
theorem wb11m1_prog_4_method_3_code_c1 : wt_cs prog_4_method_3_code 30 wb11m1_prog_4_method_3_code_r1 := wt_cs_tl (m := 30) wb11m1_prog_4_method_3_code_c0 rfl rfl
theorem wp_rw_found_d0 : decode prog_4_method_3_code 0 = .ok (.aload_n 0, 1) := wt_op42 wb11m1_prog_4_method_3_code_c0 0 rfl rfl
theorem wp_rw_found_d1 : decode prog_4_method_3_code 1 = .ok (.getfield 44, 3) := wt_op180 wb11m1_prog_4_method_3_code_c0 1 rfl rfl rfl
theorem wp_rw_found_d4 : decode prog_4_method_3_code 4 = .ok (.iconst (-1), 1) := wt_op2 wb11m1_prog_4_method_3_code_c0 4 rfl rfl
theorem wp_rw_found_d5 : decode prog_4_method_3_code 5 = .ok (.if_icmp .eq 7, 3) := wt_op159 wb11m1_prog_4_method_3_code_c0 5 rfl rfl rfl
theorem wp_rw_found_d8 : decode prog_4_method_3_code 8 = .ok (.iload_n 3, 1) := wt_op29 wb11m1_prog_4_method_3_code_c0 8 rfl rfl
theorem wp_rw_found_d9 : decode prog_4_method_3_code 9 = .ok (.ifCond .ne 8, 3) := wt_op154 wb11m1_prog_4_method_3_code_c0 9 rfl rfl rfl
theorem wp_rw_found_d12 : decode prog_4_method_3_code 12 = .ok (.aload_n 0, 1) := wt_op42 wb11m1_prog_4_method_3_code_c0 12 rfl rfl
theorem wp_rw_found_d13 : decode prog_4_method_3_code 13 = .ok (.getfield 44, 3) := wt_op180 wb11m1_prog_4_method_3_code_c0 13 rfl rfl rfl
theorem wp_rw_found_d16 : decode prog_4_method_3_code 16 = .ok (.ireturn, 1) := wt_op172 wb11m1_prog_4_method_3_code_c0 16 rfl rfl
theorem wp_rw_found_d17 : decode prog_4_method_3_code 17 = .ok (.iload_n 2, 1) := wt_op28 wb11m1_prog_4_method_3_code_c0 17 rfl rfl
theorem wp_rw_found_d18 : decode prog_4_method_3_code 18 = .ok (.ifCond .lt 26, 3) := wt_op155 wb11m1_prog_4_method_3_code_c0 18 rfl rfl rfl
theorem wp_rw_found_d21 : decode prog_4_method_3_code 21 = .ok (.iload_n 2, 1) := wt_op28 wb11m1_prog_4_method_3_code_c0 21 rfl rfl
theorem wp_rw_found_d22 : decode prog_4_method_3_code 22 = .ok (.aload_n 0, 1) := wt_op42 wb11m1_prog_4_method_3_code_c0 22 rfl rfl
theorem wp_rw_found_d23 : decode prog_4_method_3_code 23 = .ok (.getfield 19, 3) := wt_op180 wb11m1_prog_4_method_3_code_c0 23 rfl rfl rfl
theorem wp_rw_found_d26 : decode prog_4_method_3_code 26 = .ok (.iload_n 1, 1) := wt_op27 wb11m1_prog_4_method_3_code_c0 26 rfl rfl
theorem wp_rw_found_d27 : decode prog_4_method_3_code 27 = .ok (.invokevirtual 66, 3) := wt_op182 wb11m1_prog_4_method_3_code_c0 27 rfl rfl rfl
theorem wp_rw_found_d30 : decode prog_4_method_3_code 30 = .ok (.if_icmp .ge 14, 3) := wt_op162 wb11m1_prog_4_method_3_code_c1 0 rfl rfl rfl
theorem wp_rw_found_d33 : decode prog_4_method_3_code 33 = .ok (.aload_n 0, 1) := wt_op42 wb11m1_prog_4_method_3_code_c1 3 rfl rfl
theorem wp_rw_found_d34 : decode prog_4_method_3_code 34 = .ok (.getfield 41, 3) := wt_op180 wb11m1_prog_4_method_3_code_c1 4 rfl rfl rfl
theorem wp_rw_found_d37 : decode prog_4_method_3_code 37 = .ok (.iload_n 2, 1) := wt_op28 wb11m1_prog_4_method_3_code_c1 7 rfl rfl
theorem wp_rw_found_d38 : decode prog_4_method_3_code 38 = .ok (.invokestatic 53, 3) := wt_op184 wb11m1_prog_4_method_3_code_c1 8 rfl rfl rfl
theorem wp_rw_found_d41 : decode prog_4_method_3_code 41 = .ok (.goto 4, 3) := wt_op167 wb11m1_prog_4_method_3_code_c1 11 rfl rfl rfl
theorem wp_rw_found_d44 : decode prog_4_method_3_code 44 = .ok (.iconst (-1), 1) := wt_op2 wb11m1_prog_4_method_3_code_c1 14 rfl rfl
theorem wp_rw_found_d45 : decode prog_4_method_3_code 45 = .ok (.ireturn, 1) := wt_op172 wb11m1_prog_4_method_3_code_c1 15 rfl rfl
noncomputable def wp_rw_found_B12 (n : Nat) (σ : wt_St) : Option (Int32 × wt_St) :=
  some ((wt_gf σ 81 9), σ)
set_option maxRecDepth 100000 in
set_option maxHeartbeats 4000000 in
theorem wp_rw_found_B12_ok  {X : wt_X} {n : Nat} {res : Int32 × wt_St} (hE : wt_Ok X prog_4_method_3_code 4 "WornType$Rows" 2 0) (hR : wt_Rt X (some .int) (some res.1) res.2) (hD : ∀ i, i < 108 → wt_dom (wt_xw X) i)  {σ : wt_St} (h : wp_rw_found_B12 n σ = some res) : wt_V X 0 σ 12 [some (.ref (wt_ad (wt_xw X) 81)), none, none, none] [] := by
  unfold wp_rw_found_B12 at h
  refine wt_aload_n hE wp_rw_found_d12 rfl ?_
  refine wt_geti hE wt_lf_rw_44 (hD 81 (Nat.le_of_ble_eq_true rfl)) wt_L81 rfl wp_rw_found_d13 ?_
  cases h
  exact wt_iret hE hR wp_rw_found_d16
noncomputable def wp_rw_found (n : Nat) (x1 : Int32) (x2 : Int32) (x3 : Int32) (σ : wt_St) : Option (Int32 × wt_St) :=
  if (wt_gf σ 81 9) = (-1 : Int32) then
    wp_rw_found_B12 n σ
  else
    if x3 = 0 then
      wp_rw_found_B12 n σ
    else
      if x2 < 0 then
        some ((-1 : Int32), σ)
      else
        (wp_tx_lengthOf n x1 σ).bind fun q4 =>
        if q4.1 ≤ x2 then
          some ((-1 : Int32), q4.2)
        else
          (wp_ap_look n 85 x2 q4.2).bind fun q6 =>
          some (q6.1, q6.2)
set_option maxRecDepth 100000 in
set_option maxHeartbeats 4000000 in
theorem wp_rw_found_ok {l : Launch} {w : wt_E} {n : Nat} {x1 : Int32} {x2 : Int32} {x3 : Int32} (hD : ∀ i, i < 108 → wt_dom w i) {σ : wt_St} {q : Int32 × wt_St} (h : wp_rw_found n x1 x2 x3 σ = some q) : wt_Ctr l w wt_y_rw_found prog_4_method_3_code 4 (some .int) 2 [.ref (wt_ad w 81), .int x1, .int x2, .int x3] σ (some q.1) q.2 := by
  refine wt_ctr wt_pl_rw_found rfl (Nat.le_of_ble_eq_true rfl) [some (.ref (wt_ad w 81)), some (.int x1), some (.int x2), some (.int x3)] rfl ?_
  intro X hXl hXw hE hR
  subst hXl
  subst hXw
  have hE : wt_Ok X prog_4_method_3_code 4 "WornType$Rows" 2 0 := hE
  unfold wp_rw_found at h
  refine wt_aload_n hE wp_rw_found_d0 rfl ?_
  refine wt_geti hE wt_lf_rw_44 (hD 81 (Nat.le_of_ble_eq_true rfl)) wt_L81 rfl wp_rw_found_d1 ?_
  refine wt_iconst hE (-1 : Int32) wp_rw_found_d4 wt_ci_m1 ?_
  refine wt_icmp_eq hE 12 wp_rw_found_d5 rfl (fun c1 => ?_) (fun c1 => ?_)
  · have h := wt_ip c1 h
    refine wt_wk [true, false, false, false] rfl ?_
    exact wp_rw_found_B12_ok hE hR hD h
  · have h := wt_in c1 h
    refine wt_iload_n hE wp_rw_found_d8 rfl ?_
    refine wt_if_ne hE 17 wp_rw_found_d9 rfl (fun c2 => ?_) (fun c2 => ?_)
    · have h := wt_in c2 h
      refine wt_iload_n hE wp_rw_found_d17 rfl ?_
      refine wt_if_lt hE 44 wp_rw_found_d18 rfl (fun c3 => ?_) (fun c3 => ?_)
      · have h := wt_ip c3 h
        refine wt_iconst hE (-1 : Int32) wp_rw_found_d44 wt_ci_m1 ?_
        cases h
        exact wt_iret hE hR wp_rw_found_d45
      · have h := wt_in c3 h
        refine wt_iload_n hE wp_rw_found_d21 rfl ?_
        refine wt_aload_n hE wp_rw_found_d22 rfl ?_
        refine wt_getr hE (r := 34) wt_lf_rw_19 (hD 81 (Nat.le_of_ble_eq_true rfl)) wt_L81 rfl wp_rw_found_d23 ?_
        refine wt_iload_n hE wp_rw_found_d26 rfl ?_
        obtain ⟨q4, hq4, h⟩ := wt_bi h
        refine wt_callVi hE [.int x1] wt_lm_rw_66 wt_ya_tx_lengthOf (wp_tx_lengthOf_ok hD hq4) (by omega) (hD 34 (Nat.le_of_ble_eq_true rfl)) wt_L34 rfl rfl rfl (Nat.le_of_ble_eq_true rfl) (Nat.zero_le _) wp_rw_found_d27 (fun hbq4 => ?_)
        refine wt_icmp_ge hE 44 wp_rw_found_d30 rfl (fun c5 => ?_) (fun c5 => ?_)
        · have h := wt_ip c5 h
          refine wt_iconst hE (-1 : Int32) wp_rw_found_d44 wt_ci_m1 ?_
          cases h
          exact wt_iret hE hR wp_rw_found_d45
        · have h := wt_in c5 h
          refine wt_aload_n hE wp_rw_found_d33 rfl ?_
          refine wt_getr hE (r := 85) wt_lf_rw_41 (hD 81 (Nat.le_of_ble_eq_true rfl)) wt_L81 rfl wp_rw_found_d34 ?_
          refine wt_iload_n hE wp_rw_found_d37 rfl ?_
          obtain ⟨q6, hq6, h⟩ := wt_bi h
          refine wt_callSi hE [.ref (wt_ad (wt_xw X) 85), .int x2] wt_lm_rw_53 wt_ya_ap_look (wp_ap_look_ok (wt_lnE wt_L85) (hD 85 (Nat.le_of_ble_eq_true rfl)) hq6) (by omega) rfl rfl (Nat.le_of_ble_eq_true rfl) (Nat.zero_le _) wp_rw_found_d38 (fun hbq6 => ?_)
          refine wt_goto hE 45 wp_rw_found_d41 rfl ?_
          cases h
          exact wt_iret hE hR wp_rw_found_d45
    · have h := wt_ip c2 h
      refine wt_wk [true, false, false, false] rfl ?_
      exact wp_rw_found_B12_ok hE hR hD h
def wb11m1_prog_4_method_4_code_r1 : List (List Nat) := [182, 0, 75, 104, 61, 28, 17, 16, 0, 164, 0, 5, 4, 172, 132, 3, 1, 167, 255, 213, 3, 172] :: []
def wb11m1_prog_4_method_4_code_r0 : List (List Nat) := [4, 61, 3, 62, 29, 42, 180, 0, 19, 27, 182, 0, 66, 162, 0, 37, 28, 42, 180, 0, 15, 42, 180, 0, 19, 27, 29, 182, 0, 72] :: wb11m1_prog_4_method_4_code_r1
set_option maxRecDepth 100000 in
theorem wb11m1_prog_4_method_4_code_c0 : wt_cs prog_4_method_4_code 0 wb11m1_prog_4_method_4_code_r0 := wt_cs_of (by decide +kernel)
theorem wb11m1_prog_4_method_4_code_c1 : wt_cs prog_4_method_4_code 30 wb11m1_prog_4_method_4_code_r1 := wt_cs_tl (m := 30) wb11m1_prog_4_method_4_code_c0 rfl rfl
theorem wp_rw_tooMany_d0 : decode prog_4_method_4_code 0 = .ok (.iconst 1, 1) := wt_op4 wb11m1_prog_4_method_4_code_c0 0 rfl rfl
theorem wp_rw_tooMany_d1 : decode prog_4_method_4_code 1 = .ok (.istore_n 2, 1) := wt_op61 wb11m1_prog_4_method_4_code_c0 1 rfl rfl
theorem wp_rw_tooMany_d2 : decode prog_4_method_4_code 2 = .ok (.iconst 0, 1) := wt_op3 wb11m1_prog_4_method_4_code_c0 2 rfl rfl
theorem wp_rw_tooMany_d3 : decode prog_4_method_4_code 3 = .ok (.istore_n 3, 1) := wt_op62 wb11m1_prog_4_method_4_code_c0 3 rfl rfl
theorem wp_rw_tooMany_d4 : decode prog_4_method_4_code 4 = .ok (.iload_n 3, 1) := wt_op29 wb11m1_prog_4_method_4_code_c0 4 rfl rfl
theorem wp_rw_tooMany_d5 : decode prog_4_method_4_code 5 = .ok (.aload_n 0, 1) := wt_op42 wb11m1_prog_4_method_4_code_c0 5 rfl rfl
theorem wp_rw_tooMany_d6 : decode prog_4_method_4_code 6 = .ok (.getfield 19, 3) := wt_op180 wb11m1_prog_4_method_4_code_c0 6 rfl rfl rfl
theorem wp_rw_tooMany_d9 : decode prog_4_method_4_code 9 = .ok (.iload_n 1, 1) := wt_op27 wb11m1_prog_4_method_4_code_c0 9 rfl rfl
theorem wp_rw_tooMany_d10 : decode prog_4_method_4_code 10 = .ok (.invokevirtual 66, 3) := wt_op182 wb11m1_prog_4_method_4_code_c0 10 rfl rfl rfl
theorem wp_rw_tooMany_d13 : decode prog_4_method_4_code 13 = .ok (.if_icmp .ge 37, 3) := wt_op162 wb11m1_prog_4_method_4_code_c0 13 rfl rfl rfl
theorem wp_rw_tooMany_d16 : decode prog_4_method_4_code 16 = .ok (.iload_n 2, 1) := wt_op28 wb11m1_prog_4_method_4_code_c0 16 rfl rfl
theorem wp_rw_tooMany_d17 : decode prog_4_method_4_code 17 = .ok (.aload_n 0, 1) := wt_op42 wb11m1_prog_4_method_4_code_c0 17 rfl rfl
theorem wp_rw_tooMany_d18 : decode prog_4_method_4_code 18 = .ok (.getfield 15, 3) := wt_op180 wb11m1_prog_4_method_4_code_c0 18 rfl rfl rfl
theorem wp_rw_tooMany_d21 : decode prog_4_method_4_code 21 = .ok (.aload_n 0, 1) := wt_op42 wb11m1_prog_4_method_4_code_c0 21 rfl rfl
theorem wp_rw_tooMany_d22 : decode prog_4_method_4_code 22 = .ok (.getfield 19, 3) := wt_op180 wb11m1_prog_4_method_4_code_c0 22 rfl rfl rfl
theorem wp_rw_tooMany_d25 : decode prog_4_method_4_code 25 = .ok (.iload_n 1, 1) := wt_op27 wb11m1_prog_4_method_4_code_c0 25 rfl rfl
theorem wp_rw_tooMany_d26 : decode prog_4_method_4_code 26 = .ok (.iload_n 3, 1) := wt_op29 wb11m1_prog_4_method_4_code_c0 26 rfl rfl
theorem wp_rw_tooMany_d27 : decode prog_4_method_4_code 27 = .ok (.invokevirtual 72, 3) := wt_op182 wb11m1_prog_4_method_4_code_c0 27 rfl rfl rfl
theorem wp_rw_tooMany_d30 : decode prog_4_method_4_code 30 = .ok (.invokevirtual 75, 3) := wt_op182 wb11m1_prog_4_method_4_code_c1 0 rfl rfl rfl
theorem wp_rw_tooMany_d33 : decode prog_4_method_4_code 33 = .ok (.imul, 1) := wt_op104 wb11m1_prog_4_method_4_code_c1 3 rfl rfl
theorem wp_rw_tooMany_d34 : decode prog_4_method_4_code 34 = .ok (.istore_n 2, 1) := wt_op61 wb11m1_prog_4_method_4_code_c1 4 rfl rfl
theorem wp_rw_tooMany_d35 : decode prog_4_method_4_code 35 = .ok (.iload_n 2, 1) := wt_op28 wb11m1_prog_4_method_4_code_c1 5 rfl rfl
theorem wp_rw_tooMany_d36 : decode prog_4_method_4_code 36 = .ok (.sipush 4096, 3) := wt_op17 wb11m1_prog_4_method_4_code_c1 6 rfl rfl rfl
theorem wp_rw_tooMany_d39 : decode prog_4_method_4_code 39 = .ok (.if_icmp .le 5, 3) := wt_op164 wb11m1_prog_4_method_4_code_c1 9 rfl rfl rfl
theorem wp_rw_tooMany_d42 : decode prog_4_method_4_code 42 = .ok (.iconst 1, 1) := wt_op4 wb11m1_prog_4_method_4_code_c1 12 rfl rfl
theorem wp_rw_tooMany_d43 : decode prog_4_method_4_code 43 = .ok (.ireturn, 1) := wt_op172 wb11m1_prog_4_method_4_code_c1 13 rfl rfl
theorem wp_rw_tooMany_d44 : decode prog_4_method_4_code 44 = .ok (.iinc 3 1, 3) := wt_op132 wb11m1_prog_4_method_4_code_c1 14 rfl rfl rfl
theorem wp_rw_tooMany_d47 : decode prog_4_method_4_code 47 = .ok (.goto (-43), 3) := wt_op167 wb11m1_prog_4_method_4_code_c1 17 rfl rfl rfl
theorem wp_rw_tooMany_d50 : decode prog_4_method_4_code 50 = .ok (.iconst 0, 1) := wt_op3 wb11m1_prog_4_method_4_code_c1 20 rfl rfl
theorem wp_rw_tooMany_d51 : decode prog_4_method_4_code 51 = .ok (.ireturn, 1) := wt_op172 wb11m1_prog_4_method_4_code_c1 21 rfl rfl
noncomputable def wp_rw_tooMany_B4 (n : Nat) (x1 : Int32) (K4 : Int32 × Int32 × wt_St → Option (Int32 × wt_St)) (s : Int32 × Int32 × wt_St) : Option (Int32 × wt_St) :=
  (wp_tx_lengthOf n x1 s.2.2).bind fun q1 =>
  if q1.1 ≤ s.2.1 then
    some ((0 : Int32), q1.2)
  else
    (wp_tx_wordAt n x1 s.2.1 q1.2).bind fun q3 =>
    (wp_tg_membersLike n 20 q3.1 q3.2).bind fun q4 =>
    if (s.1 * q4.1) ≤ (4096 : Int32) then
      K4 ((s.1 * q4.1), (s.2.1 + (1 : Int32)), q4.2)
    else
      some ((1 : Int32), q4.2)
set_option maxRecDepth 100000 in
set_option maxHeartbeats 4000000 in
theorem wp_rw_tooMany_B4_ok  {x1 : Int32} {X : wt_X} {n : Nat} {res : Int32 × wt_St} (hE : wt_Ok X prog_4_method_4_code 4 "WornType$Rows" 3 0) (hR : wt_Rt X (some .boolean) (some res.1) res.2) (hD : ∀ i, i < 108 → wt_dom (wt_xw X) i)  {K4 : Int32 × Int32 × wt_St → Option (Int32 × wt_St)} (hK4 : ∀ s : Int32 × Int32 × wt_St, K4 s = some res → wt_V X 0 s.2.2 4 [some (.ref (wt_ad (wt_xw X) 81)), some (.int x1), some (.int s.1), some (.int s.2.1)] []) {s : Int32 × Int32 × wt_St} (h : wp_rw_tooMany_B4 n x1 K4 s = some res) : wt_V X 0 s.2.2 4 [some (.ref (wt_ad (wt_xw X) 81)), some (.int x1), some (.int s.1), some (.int s.2.1)] [] := by
  unfold wp_rw_tooMany_B4 at h
  refine wt_iload_n hE wp_rw_tooMany_d4 rfl ?_
  refine wt_aload_n hE wp_rw_tooMany_d5 rfl ?_
  refine wt_getr hE (r := 34) wt_lf_rw_19 (hD 81 (Nat.le_of_ble_eq_true rfl)) wt_L81 rfl wp_rw_tooMany_d6 ?_
  refine wt_iload_n hE wp_rw_tooMany_d9 rfl ?_
  obtain ⟨q1, hq1, h⟩ := wt_bi h
  refine wt_callVi hE [.int x1] wt_lm_rw_66 wt_ya_tx_lengthOf (wp_tx_lengthOf_ok hD hq1) (by omega) (hD 34 (Nat.le_of_ble_eq_true rfl)) wt_L34 rfl rfl rfl (Nat.le_of_ble_eq_true rfl) (Nat.zero_le _) wp_rw_tooMany_d10 (fun hbq1 => ?_)
  refine wt_icmp_ge hE 50 wp_rw_tooMany_d13 rfl (fun c2 => ?_) (fun c2 => ?_)
  · have h := wt_ip c2 h
    refine wt_iconst hE (0 : Int32) wp_rw_tooMany_d50 wt_ci_0 ?_
    cases h
    exact wt_zret hE (by decide) hR wp_rw_tooMany_d51
  · have h := wt_in c2 h
    refine wt_iload_n hE wp_rw_tooMany_d16 rfl ?_
    refine wt_aload_n hE wp_rw_tooMany_d17 rfl ?_
    refine wt_getr hE (r := 20) wt_lf_rw_15 (hD 81 (Nat.le_of_ble_eq_true rfl)) wt_L81 rfl wp_rw_tooMany_d18 ?_
    refine wt_aload_n hE wp_rw_tooMany_d21 rfl ?_
    refine wt_getr hE (r := 34) wt_lf_rw_19 (hD 81 (Nat.le_of_ble_eq_true rfl)) wt_L81 rfl wp_rw_tooMany_d22 ?_
    refine wt_iload_n hE wp_rw_tooMany_d25 rfl ?_
    refine wt_iload_n hE wp_rw_tooMany_d26 rfl ?_
    obtain ⟨q3, hq3, h⟩ := wt_bi h
    refine wt_callVi hE [.int x1, .int s.2.1] wt_lm_rw_72 wt_ya_tx_wordAt (wp_tx_wordAt_ok hD hq3) (by omega) (hD 34 (Nat.le_of_ble_eq_true rfl)) wt_L34 rfl rfl rfl (Nat.le_of_ble_eq_true rfl) (Nat.zero_le _) wp_rw_tooMany_d27 (fun hbq3 => ?_)
    obtain ⟨q4, hq4, h⟩ := wt_bi h
    refine wt_callVi hE [.int q3.1] wt_lm_rw_75 wt_ya_tg_membersLike (wp_tg_membersLike_ok wt_isTongue_20 (fun j hj => hD (20 + j) (by omega)) hq4) (by omega) (hD 20 (Nat.le_of_ble_eq_true rfl)) wt_L20 rfl rfl rfl (Nat.le_of_ble_eq_true rfl) (Nat.zero_le _) wp_rw_tooMany_d30 (fun hbq4 => ?_)
    refine wt_imul hE wp_rw_tooMany_d33 ?_
    refine wt_istore_n hE [some (.ref (wt_ad (wt_xw X) 81)), some (.int x1), some (.int (s.1 * q4.1)), some (.int s.2.1)] wp_rw_tooMany_d34 (by decide) rfl ?_
    refine wt_iload_n hE wp_rw_tooMany_d35 rfl ?_
    refine wt_sipush hE (4096 : Int32) wp_rw_tooMany_d36 wt_cs_4096 ?_
    refine wt_icmp_le hE 44 wp_rw_tooMany_d39 rfl (fun c5 => ?_) (fun c5 => ?_)
    · have h := wt_ip c5 h
      refine wt_iinc hE (s.2.1 + (1 : Int32)) [some (.ref (wt_ad (wt_xw X) 81)), some (.int x1), some (.int (s.1 * q4.1)), some (.int (s.2.1 + (1 : Int32)))] wp_rw_tooMany_d44 (by decide) rfl rfl rfl ?_
      refine wt_goto hE 4 wp_rw_tooMany_d47 rfl ?_
      exact hK4 ((s.1 * q4.1), (s.2.1 + (1 : Int32)), q4.2) h
    · have h := wt_in c5 h
      refine wt_iconst hE (1 : Int32) wp_rw_tooMany_d42 wt_ci_1 ?_
      cases h
      exact wt_zret hE (by decide) hR wp_rw_tooMany_d43
noncomputable def wp_rw_tooMany (n : Nat) (x1 : Int32) (σ : wt_St) : Option (Int32 × wt_St) :=
  wt_it (wp_rw_tooMany_B4 n x1) n ((1 : Int32), (0 : Int32), σ)
set_option maxRecDepth 100000 in
set_option maxHeartbeats 4000000 in
theorem wp_rw_tooMany_ok {l : Launch} {w : wt_E} {n : Nat} {x1 : Int32} (hD : ∀ i, i < 108 → wt_dom w i) {σ : wt_St} {q : Int32 × wt_St} (h : wp_rw_tooMany n x1 σ = some q) : wt_Ctr l w wt_y_rw_tooMany prog_4_method_4_code 4 (some .boolean) 3 [.ref (wt_ad w 81), .int x1] σ (some q.1) q.2 := by
  refine wt_ctr wt_pl_rw_tooMany rfl (Nat.le_of_ble_eq_true rfl) [some (.ref (wt_ad w 81)), some (.int x1), none, none] rfl ?_
  intro X hXl hXw hE hR
  subst hXl
  subst hXw
  have hE : wt_Ok X prog_4_method_4_code 4 "WornType$Rows" 3 0 := hE
  unfold wp_rw_tooMany at h
  refine wt_iconst hE (1 : Int32) wp_rw_tooMany_d0 wt_ci_1 ?_
  refine wt_istore_n hE [some (.ref (wt_ad (wt_xw X) 81)), some (.int x1), some (.int (1 : Int32)), none] wp_rw_tooMany_d1 (by decide) rfl ?_
  refine wt_iconst hE (0 : Int32) wp_rw_tooMany_d2 wt_ci_0 ?_
  refine wt_istore_n hE [some (.ref (wt_ad (wt_xw X) 81)), some (.int x1), some (.int (1 : Int32)), some (.int (0 : Int32))] wp_rw_tooMany_d3 (by decide) rfl ?_
  exact wt_it_ind (fun z => wt_V X 0 z.2.2 4 [some (.ref (wt_ad (wt_xw X) 81)), some (.int x1), some (.int z.1), some (.int z.2.1)] []) (fun K hK z h => wp_rw_tooMany_B4_ok hE hR hD hK h) n ((1 : Int32), (0 : Int32), σ) h
def wb11m1_prog_1_method_25_code_r0 : List (List Nat) := [42, 180, 0, 46, 180, 0, 142, 60, 42, 180, 0, 46, 3, 181, 0, 142, 27, 172] :: []
set_option maxRecDepth 100000 in
theorem wb11m1_prog_1_method_25_code_c0 : wt_cs prog_1_method_25_code 0 wb11m1_prog_1_method_25_code_r0 := wt_cs_of (by decide +kernel)
theorem wp_ap_forget_d0 : decode prog_1_method_25_code 0 = .ok (.aload_n 0, 1) := wt_op42 wb11m1_prog_1_method_25_code_c0 0 rfl rfl
theorem wp_ap_forget_d1 : decode prog_1_method_25_code 1 = .ok (.getfield 46, 3) := wt_op180 wb11m1_prog_1_method_25_code_c0 1 rfl rfl rfl
theorem wp_ap_forget_d4 : decode prog_1_method_25_code 4 = .ok (.getfield 142, 3) := wt_op180 wb11m1_prog_1_method_25_code_c0 4 rfl rfl rfl
theorem wp_ap_forget_d7 : decode prog_1_method_25_code 7 = .ok (.istore_n 1, 1) := wt_op60 wb11m1_prog_1_method_25_code_c0 7 rfl rfl
theorem wp_ap_forget_d8 : decode prog_1_method_25_code 8 = .ok (.aload_n 0, 1) := wt_op42 wb11m1_prog_1_method_25_code_c0 8 rfl rfl
theorem wp_ap_forget_d9 : decode prog_1_method_25_code 9 = .ok (.getfield 46, 3) := wt_op180 wb11m1_prog_1_method_25_code_c0 9 rfl rfl rfl
theorem wp_ap_forget_d12 : decode prog_1_method_25_code 12 = .ok (.iconst 0, 1) := wt_op3 wb11m1_prog_1_method_25_code_c0 12 rfl rfl
theorem wp_ap_forget_d13 : decode prog_1_method_25_code 13 = .ok (.putfield 142, 3) := wt_op181 wb11m1_prog_1_method_25_code_c0 13 rfl rfl rfl
theorem wp_ap_forget_d16 : decode prog_1_method_25_code 16 = .ok (.iload_n 1, 1) := wt_op27 wb11m1_prog_1_method_25_code_c0 16 rfl rfl
theorem wp_ap_forget_d17 : decode prog_1_method_25_code 17 = .ok (.ireturn, 1) := wt_op172 wb11m1_prog_1_method_25_code_c0 17 rfl rfl
noncomputable def wp_ap_forget (n : Nat) (σ : wt_St) : Option (Int32 × wt_St) :=
  some ((wt_gf σ 39 8), (wt_sf σ 39 8 (0 : Int32)))
set_option maxRecDepth 100000 in
set_option maxHeartbeats 4000000 in
theorem wp_ap_forget_ok {l : Launch} {w : wt_E} {n : Nat} (hD : ∀ i, i < 108 → wt_dom w i) {σ : wt_St} {q : Int32 × wt_St} (h : wp_ap_forget n σ = some q) : wt_Ctr l w wt_y_ap_forget prog_1_method_25_code 2 (some .int) 0 [.ref (wt_ad w 0)] σ (some q.1) q.2 := by
  refine wt_ctr wt_pl_ap_forget rfl (Nat.le_of_ble_eq_true rfl) [some (.ref (wt_ad w 0)), none] rfl ?_
  intro X hXl hXw hE hR
  subst hXl
  subst hXw
  have hE : wt_Ok X prog_1_method_25_code 2 "WornType" 0 0 := hE
  unfold wp_ap_forget at h
  refine wt_aload_n hE wp_ap_forget_d0 rfl ?_
  refine wt_getr hE (r := 39) wt_lf_ap_46 (hD 0 (Nat.le_of_ble_eq_true rfl)) wt_L0 rfl wp_ap_forget_d1 ?_
  refine wt_geti hE wt_lf_ap_142 (hD 39 (Nat.le_of_ble_eq_true rfl)) wt_L39 rfl wp_ap_forget_d4 ?_
  refine wt_istore_n hE [some (.ref (wt_ad (wt_xw X) 0)), some (.int (wt_gf σ 39 8))] wp_ap_forget_d7 (by decide) rfl ?_
  refine wt_aload_n hE wp_ap_forget_d8 rfl ?_
  refine wt_getr hE (r := 39) wt_lf_ap_46 (hD 0 (Nat.le_of_ble_eq_true rfl)) wt_L0 rfl wp_ap_forget_d9 ?_
  refine wt_iconst hE (0 : Int32) wp_ap_forget_d12 wt_ci_0 ?_
  refine wt_puti hE wt_lf_ap_142 (hD 39 (Nat.le_of_ble_eq_true rfl)) wt_L39 rfl (fun q hq => by cases hq; rfl) wp_ap_forget_d13 ?_
  refine wt_iload_n hE wp_ap_forget_d16 rfl ?_
  cases h
  exact wt_iret hE hR wp_ap_forget_d17
def wb11m1_prog_11_method_3_code_r1 : List (List Nat) := [180, 0, 74, 29, 184, 0, 70, 27, 162, 0, 8, 42, 29, 182, 0, 77, 132, 2, 1, 167, 255, 213, 177] :: []
def wb11m1_prog_11_method_3_code_r0 : List (List Nat) := [42, 182, 0, 64, 3, 61, 28, 42, 180, 0, 19, 180, 0, 67, 162, 0, 38, 42, 180, 0, 36, 28, 184, 0, 70, 62, 42, 180, 0, 19] :: wb11m1_prog_11_method_3_code_r1
set_option maxRecDepth 100000 in
theorem wb11m1_prog_11_method_3_code_c0 : wt_cs prog_11_method_3_code 0 wb11m1_prog_11_method_3_code_r0 := wt_cs_of (by decide +kernel)
theorem wb11m1_prog_11_method_3_code_c1 : wt_cs prog_11_method_3_code 30 wb11m1_prog_11_method_3_code_r1 := wt_cs_tl (m := 30) wb11m1_prog_11_method_3_code_c0 rfl rfl
theorem wp_wk_printGreedily_d0 : decode prog_11_method_3_code 0 = .ok (.aload_n 0, 1) := wt_op42 wb11m1_prog_11_method_3_code_c0 0 rfl rfl
theorem wp_wk_printGreedily_d1 : decode prog_11_method_3_code 1 = .ok (.invokevirtual 64, 3) := wt_op182 wb11m1_prog_11_method_3_code_c0 1 rfl rfl rfl
theorem wp_wk_printGreedily_d4 : decode prog_11_method_3_code 4 = .ok (.iconst 0, 1) := wt_op3 wb11m1_prog_11_method_3_code_c0 4 rfl rfl
theorem wp_wk_printGreedily_d5 : decode prog_11_method_3_code 5 = .ok (.istore_n 2, 1) := wt_op61 wb11m1_prog_11_method_3_code_c0 5 rfl rfl
theorem wp_wk_printGreedily_d6 : decode prog_11_method_3_code 6 = .ok (.iload_n 2, 1) := wt_op28 wb11m1_prog_11_method_3_code_c0 6 rfl rfl
theorem wp_wk_printGreedily_d7 : decode prog_11_method_3_code 7 = .ok (.aload_n 0, 1) := wt_op42 wb11m1_prog_11_method_3_code_c0 7 rfl rfl
theorem wp_wk_printGreedily_d8 : decode prog_11_method_3_code 8 = .ok (.getfield 19, 3) := wt_op180 wb11m1_prog_11_method_3_code_c0 8 rfl rfl rfl
theorem wp_wk_printGreedily_d11 : decode prog_11_method_3_code 11 = .ok (.getfield 67, 3) := wt_op180 wb11m1_prog_11_method_3_code_c0 11 rfl rfl rfl
theorem wp_wk_printGreedily_d14 : decode prog_11_method_3_code 14 = .ok (.if_icmp .ge 38, 3) := wt_op162 wb11m1_prog_11_method_3_code_c0 14 rfl rfl rfl
theorem wp_wk_printGreedily_d17 : decode prog_11_method_3_code 17 = .ok (.aload_n 0, 1) := wt_op42 wb11m1_prog_11_method_3_code_c0 17 rfl rfl
theorem wp_wk_printGreedily_d18 : decode prog_11_method_3_code 18 = .ok (.getfield 36, 3) := wt_op180 wb11m1_prog_11_method_3_code_c0 18 rfl rfl rfl
theorem wp_wk_printGreedily_d21 : decode prog_11_method_3_code 21 = .ok (.iload_n 2, 1) := wt_op28 wb11m1_prog_11_method_3_code_c0 21 rfl rfl
theorem wp_wk_printGreedily_d22 : decode prog_11_method_3_code 22 = .ok (.invokestatic 70, 3) := wt_op184 wb11m1_prog_11_method_3_code_c0 22 rfl rfl rfl
theorem wp_wk_printGreedily_d25 : decode prog_11_method_3_code 25 = .ok (.istore_n 3, 1) := wt_op62 wb11m1_prog_11_method_3_code_c0 25 rfl rfl
theorem wp_wk_printGreedily_d26 : decode prog_11_method_3_code 26 = .ok (.aload_n 0, 1) := wt_op42 wb11m1_prog_11_method_3_code_c0 26 rfl rfl
theorem wp_wk_printGreedily_d27 : decode prog_11_method_3_code 27 = .ok (.getfield 19, 3) := wt_op180 wb11m1_prog_11_method_3_code_c0 27 rfl rfl rfl
theorem wp_wk_printGreedily_d30 : decode prog_11_method_3_code 30 = .ok (.getfield 74, 3) := wt_op180 wb11m1_prog_11_method_3_code_c1 0 rfl rfl rfl
theorem wp_wk_printGreedily_d33 : decode prog_11_method_3_code 33 = .ok (.iload_n 3, 1) := wt_op29 wb11m1_prog_11_method_3_code_c1 3 rfl rfl
theorem wp_wk_printGreedily_d34 : decode prog_11_method_3_code 34 = .ok (.invokestatic 70, 3) := wt_op184 wb11m1_prog_11_method_3_code_c1 4 rfl rfl rfl
theorem wp_wk_printGreedily_d37 : decode prog_11_method_3_code 37 = .ok (.iload_n 1, 1) := wt_op27 wb11m1_prog_11_method_3_code_c1 7 rfl rfl
theorem wp_wk_printGreedily_d38 : decode prog_11_method_3_code 38 = .ok (.if_icmp .ge 8, 3) := wt_op162 wb11m1_prog_11_method_3_code_c1 8 rfl rfl rfl
theorem wp_wk_printGreedily_d41 : decode prog_11_method_3_code 41 = .ok (.aload_n 0, 1) := wt_op42 wb11m1_prog_11_method_3_code_c1 11 rfl rfl
theorem wp_wk_printGreedily_d42 : decode prog_11_method_3_code 42 = .ok (.iload_n 3, 1) := wt_op29 wb11m1_prog_11_method_3_code_c1 12 rfl rfl
theorem wp_wk_printGreedily_d43 : decode prog_11_method_3_code 43 = .ok (.invokevirtual 77, 3) := wt_op182 wb11m1_prog_11_method_3_code_c1 13 rfl rfl rfl
theorem wp_wk_printGreedily_d46 : decode prog_11_method_3_code 46 = .ok (.iinc 2 1, 3) := wt_op132 wb11m1_prog_11_method_3_code_c1 16 rfl rfl rfl
theorem wp_wk_printGreedily_d49 : decode prog_11_method_3_code 49 = .ok (.goto (-43), 3) := wt_op167 wb11m1_prog_11_method_3_code_c1 19 rfl rfl rfl
theorem wp_wk_printGreedily_d52 : decode prog_11_method_3_code 52 = .ok (.return_, 1) := wt_op177 wb11m1_prog_11_method_3_code_c1 22 rfl rfl
noncomputable def wp_wk_printGreedily_B46 (n : Nat) (x1 : Int32) (x2 : Int32) (K6 : Int32 × wt_St → Option (wt_St)) (σ : wt_St) : Option (wt_St) :=
  K6 ((x2 + (1 : Int32)), σ)
set_option maxRecDepth 100000 in
set_option maxHeartbeats 4000000 in
theorem wp_wk_printGreedily_B46_ok  {x1 : Int32} {x2 : Int32} {X : wt_X} {n : Nat} {res : wt_St} (hE : wt_Ok X prog_11_method_3_code 4 "WornType$Weeks" 6 0) (hR : wt_Rt X none none res) (hD : ∀ i, i < 108 → wt_dom (wt_xw X) i)  {K6 : Int32 × wt_St → Option (wt_St)} (hK6 : ∀ s : Int32 × wt_St, K6 s = some res → wt_V X 0 s.2 6 [some (.ref (wt_ad (wt_xw X) 86)), some (.int x1), some (.int s.1), none] []) {σ : wt_St} (h : wp_wk_printGreedily_B46 n x1 x2 K6 σ = some res) : wt_V X 0 σ 46 [some (.ref (wt_ad (wt_xw X) 86)), some (.int x1), some (.int x2), none] [] := by
  unfold wp_wk_printGreedily_B46 at h
  refine wt_iinc hE (x2 + (1 : Int32)) [some (.ref (wt_ad (wt_xw X) 86)), some (.int x1), some (.int (x2 + (1 : Int32))), none] wp_wk_printGreedily_d46 (by decide) rfl rfl rfl ?_
  refine wt_goto hE 6 wp_wk_printGreedily_d49 rfl ?_
  exact hK6 ((x2 + (1 : Int32)), σ) h
noncomputable def wp_wk_printGreedily_B6 (n : Nat) (x1 : Int32) (K6 : Int32 × wt_St → Option (wt_St)) (s : Int32 × wt_St) : Option (wt_St) :=
  if (wt_gf s.2 39 8) ≤ s.1 then
    some s.2
  else
    (wp_ap_look n 99 s.1 s.2).bind fun q3 =>
    (wp_ap_look n 46 q3.1 q3.2).bind fun q4 =>
    if x1 ≤ q4.1 then
      wp_wk_printGreedily_B46 n x1 s.1 K6 q4.2
    else
      (wp_wk_printNext n q3.1 q4.2).bind fun q6 =>
      wp_wk_printGreedily_B46 n x1 s.1 K6 q6
set_option maxRecDepth 100000 in
set_option maxHeartbeats 4000000 in
theorem wp_wk_printGreedily_B6_ok  {x1 : Int32} {X : wt_X} {n : Nat} {res : wt_St} (hE : wt_Ok X prog_11_method_3_code 4 "WornType$Weeks" 6 0) (hR : wt_Rt X none none res) (hD : ∀ i, i < 108 → wt_dom (wt_xw X) i)  {K6 : Int32 × wt_St → Option (wt_St)} (hK6 : ∀ s : Int32 × wt_St, K6 s = some res → wt_V X 0 s.2 6 [some (.ref (wt_ad (wt_xw X) 86)), some (.int x1), some (.int s.1), none] []) {s : Int32 × wt_St} (h : wp_wk_printGreedily_B6 n x1 K6 s = some res) : wt_V X 0 s.2 6 [some (.ref (wt_ad (wt_xw X) 86)), some (.int x1), some (.int s.1), none] [] := by
  unfold wp_wk_printGreedily_B6 at h
  refine wt_iload_n hE wp_wk_printGreedily_d6 rfl ?_
  refine wt_aload_n hE wp_wk_printGreedily_d7 rfl ?_
  refine wt_getr hE (r := 39) wt_lf_wk_19 (hD 86 (Nat.le_of_ble_eq_true rfl)) wt_L86 rfl wp_wk_printGreedily_d8 ?_
  refine wt_geti hE wt_lf_wk_67 (hD 39 (Nat.le_of_ble_eq_true rfl)) wt_L39 rfl wp_wk_printGreedily_d11 ?_
  refine wt_icmp_ge hE 52 wp_wk_printGreedily_d14 rfl (fun c2 => ?_) (fun c2 => ?_)
  · have h := wt_ip c2 h
    cases h
    exact wt_vret hE hR wp_wk_printGreedily_d52
  · have h := wt_in c2 h
    refine wt_aload_n hE wp_wk_printGreedily_d17 rfl ?_
    refine wt_getr hE (r := 99) wt_lf_wk_36 (hD 86 (Nat.le_of_ble_eq_true rfl)) wt_L86 rfl wp_wk_printGreedily_d18 ?_
    refine wt_iload_n hE wp_wk_printGreedily_d21 rfl ?_
    obtain ⟨q3, hq3, h⟩ := wt_bi h
    refine wt_callSi hE [.ref (wt_ad (wt_xw X) 99), .int s.1] wt_lm_wk_70 wt_ya_ap_look (wp_ap_look_ok (wt_lnE wt_L99) (hD 99 (Nat.le_of_ble_eq_true rfl)) hq3) (by omega) rfl rfl (Nat.le_of_ble_eq_true rfl) (Nat.zero_le _) wp_wk_printGreedily_d22 (fun hbq3 => ?_)
    refine wt_istore_n hE [some (.ref (wt_ad (wt_xw X) 86)), some (.int x1), some (.int s.1), some (.int q3.1)] wp_wk_printGreedily_d25 (by decide) rfl ?_
    refine wt_aload_n hE wp_wk_printGreedily_d26 rfl ?_
    refine wt_getr hE (r := 39) wt_lf_wk_19 (hD 86 (Nat.le_of_ble_eq_true rfl)) wt_L86 rfl wp_wk_printGreedily_d27 ?_
    refine wt_getr hE (r := 46) wt_lf_wk_74 (hD 39 (Nat.le_of_ble_eq_true rfl)) wt_L39 rfl wp_wk_printGreedily_d30 ?_
    refine wt_iload_n hE wp_wk_printGreedily_d33 rfl ?_
    obtain ⟨q4, hq4, h⟩ := wt_bi h
    refine wt_callSi hE [.ref (wt_ad (wt_xw X) 46), .int q3.1] wt_lm_wk_70 wt_ya_ap_look (wp_ap_look_ok (wt_lnE wt_L46) (hD 46 (Nat.le_of_ble_eq_true rfl)) hq4) (by omega) rfl rfl (Nat.le_of_ble_eq_true rfl) (Nat.zero_le _) wp_wk_printGreedily_d34 (fun hbq4 => ?_)
    refine wt_iload_n hE wp_wk_printGreedily_d37 rfl ?_
    refine wt_icmp_ge hE 46 wp_wk_printGreedily_d38 rfl (fun c5 => ?_) (fun c5 => ?_)
    · have h := wt_ip c5 h
      refine wt_wk [true, true, true, false] rfl ?_
      exact wp_wk_printGreedily_B46_ok hE hR hD hK6 h
    · have h := wt_in c5 h
      refine wt_aload_n hE wp_wk_printGreedily_d41 rfl ?_
      refine wt_iload_n hE wp_wk_printGreedily_d42 rfl ?_
      obtain ⟨q6, hq6, h⟩ := wt_bi h
      refine wt_callVv hE [.int q3.1] wt_lm_wk_77 wt_ya_wk_printNext (wp_wk_printNext_ok hD hq6) (by omega) (hD 86 (Nat.le_of_ble_eq_true rfl)) wt_L86 rfl rfl rfl (Nat.le_of_ble_eq_true rfl) (Nat.zero_le _) wp_wk_printGreedily_d43 ?_
      refine wt_wk [true, true, true, false] rfl ?_
      exact wp_wk_printGreedily_B46_ok hE hR hD hK6 h
noncomputable def wp_wk_printGreedily (n : Nat) (x1 : Int32) (σ : wt_St) : Option (wt_St) :=
  (wp_wk_startGreedy n σ).bind fun q1 =>
  wt_it (wp_wk_printGreedily_B6 n x1) n ((0 : Int32), q1)
set_option maxRecDepth 100000 in
set_option maxHeartbeats 4000000 in
theorem wp_wk_printGreedily_ok {l : Launch} {w : wt_E} {n : Nat} {x1 : Int32} (hD : ∀ i, i < 108 → wt_dom w i) {σ : wt_St} {q : wt_St} (h : wp_wk_printGreedily n x1 σ = some q) : wt_Ctr l w wt_y_wk_printGreedily prog_11_method_3_code 4 none 6 [.ref (wt_ad w 86), .int x1] σ none q := by
  refine wt_ctr wt_pl_wk_printGreedily rfl (Nat.le_of_ble_eq_true rfl) [some (.ref (wt_ad w 86)), some (.int x1), none, none] rfl ?_
  intro X hXl hXw hE hR
  subst hXl
  subst hXw
  have hE : wt_Ok X prog_11_method_3_code 4 "WornType$Weeks" 6 0 := hE
  unfold wp_wk_printGreedily at h
  refine wt_aload_n hE wp_wk_printGreedily_d0 rfl ?_
  obtain ⟨q1, hq1, h⟩ := wt_bi h
  refine wt_callVv hE [] wt_lm_wk_64 wt_ya_wk_startGreedy (wp_wk_startGreedy_ok hD hq1) (by omega) (hD 86 (Nat.le_of_ble_eq_true rfl)) wt_L86 rfl rfl rfl (Nat.le_of_ble_eq_true rfl) (Nat.zero_le _) wp_wk_printGreedily_d1 ?_
  refine wt_iconst hE (0 : Int32) wp_wk_printGreedily_d4 wt_ci_0 ?_
  refine wt_istore_n hE [some (.ref (wt_ad (wt_xw X) 86)), some (.int x1), some (.int (0 : Int32)), none] wp_wk_printGreedily_d5 (by decide) rfl ?_
  exact wt_it_ind (fun z => wt_V X 0 z.2 6 [some (.ref (wt_ad (wt_xw X) 86)), some (.int x1), some (.int z.1), none] []) (fun K hK z h => wp_wk_printGreedily_B6_ok hE hR hD hK h) n ((0 : Int32), q1) h
def wb11m1_prog_5_method_2_code_r3 : List (List Nat) := [42, 43, 180, 0, 43, 181, 0, 43, 42, 43, 180, 0, 47, 181, 0, 47, 177] :: []
def wb11m1_prog_5_method_2_code_r2 : List (List Nat) := [42, 180, 0, 27, 184, 0, 39, 43, 180, 0, 30, 42, 180, 0, 30, 184, 0, 39, 43, 180, 0, 33, 42, 180, 0, 33, 184, 0, 39] :: wb11m1_prog_5_method_2_code_r3
def wb11m1_prog_5_method_2_code_r1 : List (List Nat) := [184, 0, 39, 43, 180, 0, 21, 42, 180, 0, 21, 184, 0, 39, 43, 180, 0, 24, 42, 180, 0, 24, 184, 0, 39, 43, 180, 0, 27] :: wb11m1_prog_5_method_2_code_r2
def wb11m1_prog_5_method_2_code_r0 : List (List Nat) := [43, 180, 0, 9, 42, 180, 0, 9, 184, 0, 39, 43, 180, 0, 15, 42, 180, 0, 15, 184, 0, 39, 43, 180, 0, 18, 42, 180, 0, 18] :: wb11m1_prog_5_method_2_code_r1
set_option maxRecDepth 100000 in
theorem wb11m1_prog_5_method_2_code_c0 : wt_cs prog_5_method_2_code 0 wb11m1_prog_5_method_2_code_r0 := wt_cs_of (by decide +kernel)
theorem wb11m1_prog_5_method_2_code_c1 : wt_cs prog_5_method_2_code 30 wb11m1_prog_5_method_2_code_r1 := wt_cs_tl (m := 30) wb11m1_prog_5_method_2_code_c0 rfl rfl
theorem wb11m1_prog_5_method_2_code_c2 : wt_cs prog_5_method_2_code 59 wb11m1_prog_5_method_2_code_r2 := wt_cs_tl (m := 29) wb11m1_prog_5_method_2_code_c1 rfl rfl
theorem wb11m1_prog_5_method_2_code_c3 : wt_cs prog_5_method_2_code 88 wb11m1_prog_5_method_2_code_r3 := wt_cs_tl (m := 29) wb11m1_prog_5_method_2_code_c2 rfl rfl
theorem wp_st_become_d0 : decode prog_5_method_2_code 0 = .ok (.aload_n 1, 1) := wt_op43 wb11m1_prog_5_method_2_code_c0 0 rfl rfl
theorem wp_st_become_d1 : decode prog_5_method_2_code 1 = .ok (.getfield 9, 3) := wt_op180 wb11m1_prog_5_method_2_code_c0 1 rfl rfl rfl
theorem wp_st_become_d4 : decode prog_5_method_2_code 4 = .ok (.aload_n 0, 1) := wt_op42 wb11m1_prog_5_method_2_code_c0 4 rfl rfl
theorem wp_st_become_d5 : decode prog_5_method_2_code 5 = .ok (.getfield 9, 3) := wt_op180 wb11m1_prog_5_method_2_code_c0 5 rfl rfl rfl
theorem wp_st_become_d8 : decode prog_5_method_2_code 8 = .ok (.invokestatic 39, 3) := wt_op184 wb11m1_prog_5_method_2_code_c0 8 rfl rfl rfl
theorem wp_st_become_d11 : decode prog_5_method_2_code 11 = .ok (.aload_n 1, 1) := wt_op43 wb11m1_prog_5_method_2_code_c0 11 rfl rfl
theorem wp_st_become_d12 : decode prog_5_method_2_code 12 = .ok (.getfield 15, 3) := wt_op180 wb11m1_prog_5_method_2_code_c0 12 rfl rfl rfl
theorem wp_st_become_d15 : decode prog_5_method_2_code 15 = .ok (.aload_n 0, 1) := wt_op42 wb11m1_prog_5_method_2_code_c0 15 rfl rfl
theorem wp_st_become_d16 : decode prog_5_method_2_code 16 = .ok (.getfield 15, 3) := wt_op180 wb11m1_prog_5_method_2_code_c0 16 rfl rfl rfl
theorem wp_st_become_d19 : decode prog_5_method_2_code 19 = .ok (.invokestatic 39, 3) := wt_op184 wb11m1_prog_5_method_2_code_c0 19 rfl rfl rfl
theorem wp_st_become_d22 : decode prog_5_method_2_code 22 = .ok (.aload_n 1, 1) := wt_op43 wb11m1_prog_5_method_2_code_c0 22 rfl rfl
theorem wp_st_become_d23 : decode prog_5_method_2_code 23 = .ok (.getfield 18, 3) := wt_op180 wb11m1_prog_5_method_2_code_c0 23 rfl rfl rfl
theorem wp_st_become_d26 : decode prog_5_method_2_code 26 = .ok (.aload_n 0, 1) := wt_op42 wb11m1_prog_5_method_2_code_c0 26 rfl rfl
theorem wp_st_become_d27 : decode prog_5_method_2_code 27 = .ok (.getfield 18, 3) := wt_op180 wb11m1_prog_5_method_2_code_c0 27 rfl rfl rfl
theorem wp_st_become_d30 : decode prog_5_method_2_code 30 = .ok (.invokestatic 39, 3) := wt_op184 wb11m1_prog_5_method_2_code_c1 0 rfl rfl rfl
theorem wp_st_become_d33 : decode prog_5_method_2_code 33 = .ok (.aload_n 1, 1) := wt_op43 wb11m1_prog_5_method_2_code_c1 3 rfl rfl
theorem wp_st_become_d34 : decode prog_5_method_2_code 34 = .ok (.getfield 21, 3) := wt_op180 wb11m1_prog_5_method_2_code_c1 4 rfl rfl rfl
theorem wp_st_become_d37 : decode prog_5_method_2_code 37 = .ok (.aload_n 0, 1) := wt_op42 wb11m1_prog_5_method_2_code_c1 7 rfl rfl
theorem wp_st_become_d38 : decode prog_5_method_2_code 38 = .ok (.getfield 21, 3) := wt_op180 wb11m1_prog_5_method_2_code_c1 8 rfl rfl rfl
theorem wp_st_become_d41 : decode prog_5_method_2_code 41 = .ok (.invokestatic 39, 3) := wt_op184 wb11m1_prog_5_method_2_code_c1 11 rfl rfl rfl
theorem wp_st_become_d44 : decode prog_5_method_2_code 44 = .ok (.aload_n 1, 1) := wt_op43 wb11m1_prog_5_method_2_code_c1 14 rfl rfl
theorem wp_st_become_d45 : decode prog_5_method_2_code 45 = .ok (.getfield 24, 3) := wt_op180 wb11m1_prog_5_method_2_code_c1 15 rfl rfl rfl
theorem wp_st_become_d48 : decode prog_5_method_2_code 48 = .ok (.aload_n 0, 1) := wt_op42 wb11m1_prog_5_method_2_code_c1 18 rfl rfl
theorem wp_st_become_d49 : decode prog_5_method_2_code 49 = .ok (.getfield 24, 3) := wt_op180 wb11m1_prog_5_method_2_code_c1 19 rfl rfl rfl
theorem wp_st_become_d52 : decode prog_5_method_2_code 52 = .ok (.invokestatic 39, 3) := wt_op184 wb11m1_prog_5_method_2_code_c1 22 rfl rfl rfl
theorem wp_st_become_d55 : decode prog_5_method_2_code 55 = .ok (.aload_n 1, 1) := wt_op43 wb11m1_prog_5_method_2_code_c1 25 rfl rfl
theorem wp_st_become_d56 : decode prog_5_method_2_code 56 = .ok (.getfield 27, 3) := wt_op180 wb11m1_prog_5_method_2_code_c1 26 rfl rfl rfl
theorem wp_st_become_d59 : decode prog_5_method_2_code 59 = .ok (.aload_n 0, 1) := wt_op42 wb11m1_prog_5_method_2_code_c2 0 rfl rfl
theorem wp_st_become_d60 : decode prog_5_method_2_code 60 = .ok (.getfield 27, 3) := wt_op180 wb11m1_prog_5_method_2_code_c2 1 rfl rfl rfl
theorem wp_st_become_d63 : decode prog_5_method_2_code 63 = .ok (.invokestatic 39, 3) := wt_op184 wb11m1_prog_5_method_2_code_c2 4 rfl rfl rfl
theorem wp_st_become_d66 : decode prog_5_method_2_code 66 = .ok (.aload_n 1, 1) := wt_op43 wb11m1_prog_5_method_2_code_c2 7 rfl rfl
theorem wp_st_become_d67 : decode prog_5_method_2_code 67 = .ok (.getfield 30, 3) := wt_op180 wb11m1_prog_5_method_2_code_c2 8 rfl rfl rfl
theorem wp_st_become_d70 : decode prog_5_method_2_code 70 = .ok (.aload_n 0, 1) := wt_op42 wb11m1_prog_5_method_2_code_c2 11 rfl rfl
theorem wp_st_become_d71 : decode prog_5_method_2_code 71 = .ok (.getfield 30, 3) := wt_op180 wb11m1_prog_5_method_2_code_c2 12 rfl rfl rfl
theorem wp_st_become_d74 : decode prog_5_method_2_code 74 = .ok (.invokestatic 39, 3) := wt_op184 wb11m1_prog_5_method_2_code_c2 15 rfl rfl rfl
theorem wp_st_become_d77 : decode prog_5_method_2_code 77 = .ok (.aload_n 1, 1) := wt_op43 wb11m1_prog_5_method_2_code_c2 18 rfl rfl
theorem wp_st_become_d78 : decode prog_5_method_2_code 78 = .ok (.getfield 33, 3) := wt_op180 wb11m1_prog_5_method_2_code_c2 19 rfl rfl rfl
theorem wp_st_become_d81 : decode prog_5_method_2_code 81 = .ok (.aload_n 0, 1) := wt_op42 wb11m1_prog_5_method_2_code_c2 22 rfl rfl
theorem wp_st_become_d82 : decode prog_5_method_2_code 82 = .ok (.getfield 33, 3) := wt_op180 wb11m1_prog_5_method_2_code_c2 23 rfl rfl rfl
theorem wp_st_become_d85 : decode prog_5_method_2_code 85 = .ok (.invokestatic 39, 3) := wt_op184 wb11m1_prog_5_method_2_code_c2 26 rfl rfl rfl
theorem wp_st_become_d88 : decode prog_5_method_2_code 88 = .ok (.aload_n 0, 1) := wt_op42 wb11m1_prog_5_method_2_code_c3 0 rfl rfl
theorem wp_st_become_d89 : decode prog_5_method_2_code 89 = .ok (.aload_n 1, 1) := wt_op43 wb11m1_prog_5_method_2_code_c3 1 rfl rfl
theorem wp_st_become_d90 : decode prog_5_method_2_code 90 = .ok (.getfield 43, 3) := wt_op180 wb11m1_prog_5_method_2_code_c3 2 rfl rfl rfl
theorem wp_st_become_d93 : decode prog_5_method_2_code 93 = .ok (.putfield 43, 3) := wt_op181 wb11m1_prog_5_method_2_code_c3 5 rfl rfl rfl
theorem wp_st_become_d96 : decode prog_5_method_2_code 96 = .ok (.aload_n 0, 1) := wt_op42 wb11m1_prog_5_method_2_code_c3 8 rfl rfl
theorem wp_st_become_d97 : decode prog_5_method_2_code 97 = .ok (.aload_n 1, 1) := wt_op43 wb11m1_prog_5_method_2_code_c3 9 rfl rfl
theorem wp_st_become_d98 : decode prog_5_method_2_code 98 = .ok (.getfield 47, 3) := wt_op180 wb11m1_prog_5_method_2_code_c3 10 rfl rfl rfl
theorem wp_st_become_d101 : decode prog_5_method_2_code 101 = .ok (.putfield 47, 3) := wt_op181 wb11m1_prog_5_method_2_code_c3 13 rfl rfl rfl
theorem wp_st_become_d104 : decode prog_5_method_2_code 104 = .ok (.return_, 1) := wt_op177 wb11m1_prog_5_method_2_code_c3 16 rfl rfl
noncomputable def wp_st_become (n : Nat) (t0 : Nat) (t1 : Nat) (σ : wt_St) : Option (wt_St) :=
  (wp_ap_copyRow n (t1 + 1) (t0 + 1) σ).bind fun q1 =>
  (wp_ap_copyRow n (t1 + 2) (t0 + 2) q1).bind fun q2 =>
  (wp_ap_copyRow n (t1 + 3) (t0 + 3) q2).bind fun q3 =>
  (wp_ap_copyRow n (t1 + 4) (t0 + 4) q3).bind fun q4 =>
  (wp_ap_copyRow n (t1 + 5) (t0 + 5) q4).bind fun q5 =>
  (wp_ap_copyRow n (t1 + 6) (t0 + 6) q5).bind fun q6 =>
  (wp_ap_copyRow n (t1 + 7) (t0 + 7) q6).bind fun q7 =>
  (wp_ap_copyRow n (t1 + 8) (t0 + 8) q7).bind fun q8 =>
  some (wt_sf (wt_sf q8 t0 8 (wt_gf q8 t1 8)) t0 9 (wt_gf (wt_sf q8 t0 8 (wt_gf q8 t1 8)) t1 9))
set_option maxRecDepth 100000 in
set_option maxHeartbeats 4000000 in
theorem wp_st_become_ok {l : Launch} {w : wt_E} {n : Nat} {t0 : Nat} {t1 : Nat} (hI_t0 : wt_isState t0) (hT_t0 : ∀ j, j < 9 → wt_dom w (t0 + j)) (hI_t1 : wt_isState t1) (hT_t1 : ∀ j, j < 9 → wt_dom w (t1 + j)) {σ : wt_St} {q : wt_St} (h : wp_st_become n t0 t1 σ = some q) : wt_Ctr l w wt_y_st_become prog_5_method_2_code 2 none 1 [.ref (wt_ad w t0), .ref (wt_ad w t1)] σ none q := by
  refine wt_ctr wt_pl_st_become rfl (Nat.le_of_ble_eq_true rfl) [some (.ref (wt_ad w t0)), some (.ref (wt_ad w t1))] rfl ?_
  intro X hXl hXw hE hR
  subst hXl
  subst hXw
  have hE : wt_Ok X prog_5_method_2_code 2 "WornType$State" 1 0 := hE
  unfold wp_st_become at h
  refine wt_aload_n hE wp_st_become_d0 rfl ?_
  refine wt_getr hE (r := (t1 + 1)) wt_lf_st_9 (hT_t1 0 (Nat.le_of_ble_eq_true rfl)) (hI_t1.1) rfl wp_st_become_d1 ?_
  refine wt_aload_n hE wp_st_become_d4 rfl ?_
  refine wt_getr hE (r := (t0 + 1)) wt_lf_st_9 (hT_t0 0 (Nat.le_of_ble_eq_true rfl)) (hI_t0.1) rfl wp_st_become_d5 ?_
  obtain ⟨q1, hq1, h⟩ := wt_bi h
  refine wt_callSv hE [.ref (wt_ad (wt_xw X) ((t1 + 1))), .ref (wt_ad (wt_xw X) ((t0 + 1)))] wt_lm_st_39 wt_ya_ap_copyRow (wp_ap_copyRow_ok (wt_lnE (wt_isState_L1 hI_t1)) (hT_t1 1 (Nat.le_of_ble_eq_true rfl)) (wt_lnE (wt_isState_L1 hI_t0)) (hT_t0 1 (Nat.le_of_ble_eq_true rfl)) hq1) (by omega) rfl rfl (Nat.le_of_ble_eq_true rfl) (Nat.zero_le _) wp_st_become_d8 ?_
  refine wt_aload_n hE wp_st_become_d11 rfl ?_
  refine wt_getr hE (r := (t1 + 2)) wt_lf_st_15 (hT_t1 0 (Nat.le_of_ble_eq_true rfl)) (hI_t1.1) rfl wp_st_become_d12 ?_
  refine wt_aload_n hE wp_st_become_d15 rfl ?_
  refine wt_getr hE (r := (t0 + 2)) wt_lf_st_15 (hT_t0 0 (Nat.le_of_ble_eq_true rfl)) (hI_t0.1) rfl wp_st_become_d16 ?_
  obtain ⟨q2, hq2, h⟩ := wt_bi h
  refine wt_callSv hE [.ref (wt_ad (wt_xw X) ((t1 + 2))), .ref (wt_ad (wt_xw X) ((t0 + 2)))] wt_lm_st_39 wt_ya_ap_copyRow (wp_ap_copyRow_ok (wt_lnE (wt_isState_L2 hI_t1)) (hT_t1 2 (Nat.le_of_ble_eq_true rfl)) (wt_lnE (wt_isState_L2 hI_t0)) (hT_t0 2 (Nat.le_of_ble_eq_true rfl)) hq2) (by omega) rfl rfl (Nat.le_of_ble_eq_true rfl) (Nat.zero_le _) wp_st_become_d19 ?_
  refine wt_aload_n hE wp_st_become_d22 rfl ?_
  refine wt_getr hE (r := (t1 + 3)) wt_lf_st_18 (hT_t1 0 (Nat.le_of_ble_eq_true rfl)) (hI_t1.1) rfl wp_st_become_d23 ?_
  refine wt_aload_n hE wp_st_become_d26 rfl ?_
  refine wt_getr hE (r := (t0 + 3)) wt_lf_st_18 (hT_t0 0 (Nat.le_of_ble_eq_true rfl)) (hI_t0.1) rfl wp_st_become_d27 ?_
  obtain ⟨q3, hq3, h⟩ := wt_bi h
  refine wt_callSv hE [.ref (wt_ad (wt_xw X) ((t1 + 3))), .ref (wt_ad (wt_xw X) ((t0 + 3)))] wt_lm_st_39 wt_ya_ap_copyRow (wp_ap_copyRow_ok (wt_lnE (wt_isState_L3 hI_t1)) (hT_t1 3 (Nat.le_of_ble_eq_true rfl)) (wt_lnE (wt_isState_L3 hI_t0)) (hT_t0 3 (Nat.le_of_ble_eq_true rfl)) hq3) (by omega) rfl rfl (Nat.le_of_ble_eq_true rfl) (Nat.zero_le _) wp_st_become_d30 ?_
  refine wt_aload_n hE wp_st_become_d33 rfl ?_
  refine wt_getr hE (r := (t1 + 4)) wt_lf_st_21 (hT_t1 0 (Nat.le_of_ble_eq_true rfl)) (hI_t1.1) rfl wp_st_become_d34 ?_
  refine wt_aload_n hE wp_st_become_d37 rfl ?_
  refine wt_getr hE (r := (t0 + 4)) wt_lf_st_21 (hT_t0 0 (Nat.le_of_ble_eq_true rfl)) (hI_t0.1) rfl wp_st_become_d38 ?_
  obtain ⟨q4, hq4, h⟩ := wt_bi h
  refine wt_callSv hE [.ref (wt_ad (wt_xw X) ((t1 + 4))), .ref (wt_ad (wt_xw X) ((t0 + 4)))] wt_lm_st_39 wt_ya_ap_copyRow (wp_ap_copyRow_ok (wt_lnE (wt_isState_L4 hI_t1)) (hT_t1 4 (Nat.le_of_ble_eq_true rfl)) (wt_lnE (wt_isState_L4 hI_t0)) (hT_t0 4 (Nat.le_of_ble_eq_true rfl)) hq4) (by omega) rfl rfl (Nat.le_of_ble_eq_true rfl) (Nat.zero_le _) wp_st_become_d41 ?_
  refine wt_aload_n hE wp_st_become_d44 rfl ?_
  refine wt_getr hE (r := (t1 + 5)) wt_lf_st_24 (hT_t1 0 (Nat.le_of_ble_eq_true rfl)) (hI_t1.1) rfl wp_st_become_d45 ?_
  refine wt_aload_n hE wp_st_become_d48 rfl ?_
  refine wt_getr hE (r := (t0 + 5)) wt_lf_st_24 (hT_t0 0 (Nat.le_of_ble_eq_true rfl)) (hI_t0.1) rfl wp_st_become_d49 ?_
  obtain ⟨q5, hq5, h⟩ := wt_bi h
  refine wt_callSv hE [.ref (wt_ad (wt_xw X) ((t1 + 5))), .ref (wt_ad (wt_xw X) ((t0 + 5)))] wt_lm_st_39 wt_ya_ap_copyRow (wp_ap_copyRow_ok (wt_lnE (wt_isState_L5 hI_t1)) (hT_t1 5 (Nat.le_of_ble_eq_true rfl)) (wt_lnE (wt_isState_L5 hI_t0)) (hT_t0 5 (Nat.le_of_ble_eq_true rfl)) hq5) (by omega) rfl rfl (Nat.le_of_ble_eq_true rfl) (Nat.zero_le _) wp_st_become_d52 ?_
  refine wt_aload_n hE wp_st_become_d55 rfl ?_
  refine wt_getr hE (r := (t1 + 6)) wt_lf_st_27 (hT_t1 0 (Nat.le_of_ble_eq_true rfl)) (hI_t1.1) rfl wp_st_become_d56 ?_
  refine wt_aload_n hE wp_st_become_d59 rfl ?_
  refine wt_getr hE (r := (t0 + 6)) wt_lf_st_27 (hT_t0 0 (Nat.le_of_ble_eq_true rfl)) (hI_t0.1) rfl wp_st_become_d60 ?_
  obtain ⟨q6, hq6, h⟩ := wt_bi h
  refine wt_callSv hE [.ref (wt_ad (wt_xw X) ((t1 + 6))), .ref (wt_ad (wt_xw X) ((t0 + 6)))] wt_lm_st_39 wt_ya_ap_copyRow (wp_ap_copyRow_ok (wt_lnE (wt_isState_L6 hI_t1)) (hT_t1 6 (Nat.le_of_ble_eq_true rfl)) (wt_lnE (wt_isState_L6 hI_t0)) (hT_t0 6 (Nat.le_of_ble_eq_true rfl)) hq6) (by omega) rfl rfl (Nat.le_of_ble_eq_true rfl) (Nat.zero_le _) wp_st_become_d63 ?_
  refine wt_aload_n hE wp_st_become_d66 rfl ?_
  refine wt_getr hE (r := (t1 + 7)) wt_lf_st_30 (hT_t1 0 (Nat.le_of_ble_eq_true rfl)) (hI_t1.1) rfl wp_st_become_d67 ?_
  refine wt_aload_n hE wp_st_become_d70 rfl ?_
  refine wt_getr hE (r := (t0 + 7)) wt_lf_st_30 (hT_t0 0 (Nat.le_of_ble_eq_true rfl)) (hI_t0.1) rfl wp_st_become_d71 ?_
  obtain ⟨q7, hq7, h⟩ := wt_bi h
  refine wt_callSv hE [.ref (wt_ad (wt_xw X) ((t1 + 7))), .ref (wt_ad (wt_xw X) ((t0 + 7)))] wt_lm_st_39 wt_ya_ap_copyRow (wp_ap_copyRow_ok (wt_lnE (wt_isState_L7 hI_t1)) (hT_t1 7 (Nat.le_of_ble_eq_true rfl)) (wt_lnE (wt_isState_L7 hI_t0)) (hT_t0 7 (Nat.le_of_ble_eq_true rfl)) hq7) (by omega) rfl rfl (Nat.le_of_ble_eq_true rfl) (Nat.zero_le _) wp_st_become_d74 ?_
  refine wt_aload_n hE wp_st_become_d77 rfl ?_
  refine wt_getr hE (r := (t1 + 8)) wt_lf_st_33 (hT_t1 0 (Nat.le_of_ble_eq_true rfl)) (hI_t1.1) rfl wp_st_become_d78 ?_
  refine wt_aload_n hE wp_st_become_d81 rfl ?_
  refine wt_getr hE (r := (t0 + 8)) wt_lf_st_33 (hT_t0 0 (Nat.le_of_ble_eq_true rfl)) (hI_t0.1) rfl wp_st_become_d82 ?_
  obtain ⟨q8, hq8, h⟩ := wt_bi h
  refine wt_callSv hE [.ref (wt_ad (wt_xw X) ((t1 + 8))), .ref (wt_ad (wt_xw X) ((t0 + 8)))] wt_lm_st_39 wt_ya_ap_copyRow (wp_ap_copyRow_ok (wt_lnE (wt_isState_L8 hI_t1)) (hT_t1 8 (Nat.le_of_ble_eq_true rfl)) (wt_lnE (wt_isState_L8 hI_t0)) (hT_t0 8 (Nat.le_of_ble_eq_true rfl)) hq8) (by omega) rfl rfl (Nat.le_of_ble_eq_true rfl) (Nat.zero_le _) wp_st_become_d85 ?_
  refine wt_aload_n hE wp_st_become_d88 rfl ?_
  refine wt_aload_n hE wp_st_become_d89 rfl ?_
  refine wt_geti hE wt_lf_st_43 (hT_t1 0 (Nat.le_of_ble_eq_true rfl)) (hI_t1.1) rfl wp_st_become_d90 ?_
  refine wt_puti hE wt_lf_st_43 (hT_t0 0 (Nat.le_of_ble_eq_true rfl)) (hI_t0.1) rfl (fun q hq => by cases hq; rfl) wp_st_become_d93 ?_
  refine wt_aload_n hE wp_st_become_d96 rfl ?_
  refine wt_aload_n hE wp_st_become_d97 rfl ?_
  refine wt_geti hE wt_lf_st_47 (hT_t1 0 (Nat.le_of_ble_eq_true rfl)) (hI_t1.1) rfl wp_st_become_d98 ?_
  refine wt_puti hE wt_lf_st_47 (hT_t0 0 (Nat.le_of_ble_eq_true rfl)) (hI_t0.1) rfl (fun q hq => by cases hq; rfl) wp_st_become_d101 ?_
  cases h
  exact wt_vret hE hR wp_st_become_d104
def wb11m1_prog_1_method_35_code_r1 : List (List Nat) := [50, 42, 180, 0, 46, 182, 1, 99, 42, 89, 180, 0, 101, 4, 96, 181, 0, 101, 42, 180, 0, 101, 172] :: []
def wb11m1_prog_1_method_35_code_r0 : List (List Nat) := [42, 180, 0, 101, 155, 0, 15, 42, 180, 0, 101, 42, 180, 0, 50, 190, 161, 0, 5, 2, 172, 42, 180, 0, 50, 42, 180, 0, 101] :: wb11m1_prog_1_method_35_code_r1
set_option maxRecDepth 100000 in
theorem wb11m1_prog_1_method_35_code_c0 : wt_cs prog_1_method_35_code 0 wb11m1_prog_1_method_35_code_r0 := wt_cs_of (by decide +kernel)
theorem wb11m1_prog_1_method_35_code_c1 : wt_cs prog_1_method_35_code 29 wb11m1_prog_1_method_35_code_r1 := wt_cs_tl (m := 29) wb11m1_prog_1_method_35_code_c0 rfl rfl
theorem wp_ap_image_d0 : decode prog_1_method_35_code 0 = .ok (.aload_n 0, 1) := wt_op42 wb11m1_prog_1_method_35_code_c0 0 rfl rfl
theorem wp_ap_image_d1 : decode prog_1_method_35_code 1 = .ok (.getfield 101, 3) := wt_op180 wb11m1_prog_1_method_35_code_c0 1 rfl rfl rfl
theorem wp_ap_image_d4 : decode prog_1_method_35_code 4 = .ok (.ifCond .lt 15, 3) := wt_op155 wb11m1_prog_1_method_35_code_c0 4 rfl rfl rfl
theorem wp_ap_image_d7 : decode prog_1_method_35_code 7 = .ok (.aload_n 0, 1) := wt_op42 wb11m1_prog_1_method_35_code_c0 7 rfl rfl
theorem wp_ap_image_d8 : decode prog_1_method_35_code 8 = .ok (.getfield 101, 3) := wt_op180 wb11m1_prog_1_method_35_code_c0 8 rfl rfl rfl
theorem wp_ap_image_d11 : decode prog_1_method_35_code 11 = .ok (.aload_n 0, 1) := wt_op42 wb11m1_prog_1_method_35_code_c0 11 rfl rfl
theorem wp_ap_image_d12 : decode prog_1_method_35_code 12 = .ok (.getfield 50, 3) := wt_op180 wb11m1_prog_1_method_35_code_c0 12 rfl rfl rfl
theorem wp_ap_image_d15 : decode prog_1_method_35_code 15 = .ok (.arraylength, 1) := wt_op190 wb11m1_prog_1_method_35_code_c0 15 rfl rfl
theorem wp_ap_image_d16 : decode prog_1_method_35_code 16 = .ok (.if_icmp .lt 5, 3) := wt_op161 wb11m1_prog_1_method_35_code_c0 16 rfl rfl rfl
theorem wp_ap_image_d19 : decode prog_1_method_35_code 19 = .ok (.iconst (-1), 1) := wt_op2 wb11m1_prog_1_method_35_code_c0 19 rfl rfl
theorem wp_ap_image_d20 : decode prog_1_method_35_code 20 = .ok (.ireturn, 1) := wt_op172 wb11m1_prog_1_method_35_code_c0 20 rfl rfl
theorem wp_ap_image_d21 : decode prog_1_method_35_code 21 = .ok (.aload_n 0, 1) := wt_op42 wb11m1_prog_1_method_35_code_c0 21 rfl rfl
theorem wp_ap_image_d22 : decode prog_1_method_35_code 22 = .ok (.getfield 50, 3) := wt_op180 wb11m1_prog_1_method_35_code_c0 22 rfl rfl rfl
theorem wp_ap_image_d25 : decode prog_1_method_35_code 25 = .ok (.aload_n 0, 1) := wt_op42 wb11m1_prog_1_method_35_code_c0 25 rfl rfl
theorem wp_ap_image_d26 : decode prog_1_method_35_code 26 = .ok (.getfield 101, 3) := wt_op180 wb11m1_prog_1_method_35_code_c0 26 rfl rfl rfl
theorem wp_ap_image_d29 : decode prog_1_method_35_code 29 = .ok (.aaload, 1) := wt_op50 wb11m1_prog_1_method_35_code_c1 0 rfl rfl
theorem wp_ap_image_d30 : decode prog_1_method_35_code 30 = .ok (.aload_n 0, 1) := wt_op42 wb11m1_prog_1_method_35_code_c1 1 rfl rfl
theorem wp_ap_image_d31 : decode prog_1_method_35_code 31 = .ok (.getfield 46, 3) := wt_op180 wb11m1_prog_1_method_35_code_c1 2 rfl rfl rfl
theorem wp_ap_image_d34 : decode prog_1_method_35_code 34 = .ok (.invokevirtual 355, 3) := wt_op182 wb11m1_prog_1_method_35_code_c1 5 rfl rfl rfl
theorem wp_ap_image_d37 : decode prog_1_method_35_code 37 = .ok (.aload_n 0, 1) := wt_op42 wb11m1_prog_1_method_35_code_c1 8 rfl rfl
theorem wp_ap_image_d38 : decode prog_1_method_35_code 38 = .ok (.dup, 1) := wt_op89 wb11m1_prog_1_method_35_code_c1 9 rfl rfl
theorem wp_ap_image_d39 : decode prog_1_method_35_code 39 = .ok (.getfield 101, 3) := wt_op180 wb11m1_prog_1_method_35_code_c1 10 rfl rfl rfl
theorem wp_ap_image_d42 : decode prog_1_method_35_code 42 = .ok (.iconst 1, 1) := wt_op4 wb11m1_prog_1_method_35_code_c1 13 rfl rfl
theorem wp_ap_image_d43 : decode prog_1_method_35_code 43 = .ok (.iadd, 1) := wt_op96 wb11m1_prog_1_method_35_code_c1 14 rfl rfl
theorem wp_ap_image_d44 : decode prog_1_method_35_code 44 = .ok (.putfield 101, 3) := wt_op181 wb11m1_prog_1_method_35_code_c1 15 rfl rfl rfl
theorem wp_ap_image_d47 : decode prog_1_method_35_code 47 = .ok (.aload_n 0, 1) := wt_op42 wb11m1_prog_1_method_35_code_c1 18 rfl rfl
theorem wp_ap_image_d48 : decode prog_1_method_35_code 48 = .ok (.getfield 101, 3) := wt_op180 wb11m1_prog_1_method_35_code_c1 19 rfl rfl rfl
theorem wp_ap_image_d51 : decode prog_1_method_35_code 51 = .ok (.ireturn, 1) := wt_op172 wb11m1_prog_1_method_35_code_c1 22 rfl rfl
noncomputable def wp_ap_image (n : Nat) (σ : wt_St) : Option (Int32 × wt_St) :=
  if (wt_gf σ 0 14) < 0 then
    some ((-1 : Int32), σ)
  else
    if (wt_gf σ 0 14) < (3 : Int32) then
      if (wt_gf σ 0 14) < 0 ∨ 3 ≤ Int32.toNatClampNeg (wt_gf σ 0 14) then none else
      (wp_st_become n (49 + 9 * Int32.toNatClampNeg (wt_gf σ 0 14)) 39 σ).bind fun q4 =>
      some ((wt_gf (wt_sf q4 0 14 ((wt_gf q4 0 14) + (1 : Int32))) 0 14), (wt_sf q4 0 14 ((wt_gf q4 0 14) + (1 : Int32))))
    else
      some ((-1 : Int32), σ)
set_option maxRecDepth 100000 in
set_option maxHeartbeats 4000000 in
theorem wp_ap_image_ok {l : Launch} {w : wt_E} {n : Nat} (hD : ∀ i, i < 108 → wt_dom w i) {σ : wt_St} {q : Int32 × wt_St} (h : wp_ap_image n σ = some q) : wt_Ctr l w wt_y_ap_image prog_1_method_35_code 1 (some .int) 2 [.ref (wt_ad w 0)] σ (some q.1) q.2 := by
  refine wt_ctr wt_pl_ap_image rfl (Nat.le_of_ble_eq_true rfl) [some (.ref (wt_ad w 0))] rfl ?_
  intro X hXl hXw hE hR
  subst hXl
  subst hXw
  have hE : wt_Ok X prog_1_method_35_code 1 "WornType" 2 0 := hE
  unfold wp_ap_image at h
  refine wt_aload_n hE wp_ap_image_d0 rfl ?_
  refine wt_geti hE wt_lf_ap_101 (hD 0 (Nat.le_of_ble_eq_true rfl)) wt_L0 rfl wp_ap_image_d1 ?_
  refine wt_if_lt hE 19 wp_ap_image_d4 rfl (fun c1 => ?_) (fun c1 => ?_)
  · have h := wt_ip c1 h
    refine wt_iconst hE (-1 : Int32) wp_ap_image_d19 wt_ci_m1 ?_
    cases h
    exact wt_iret hE hR wp_ap_image_d20
  · have h := wt_in c1 h
    refine wt_aload_n hE wp_ap_image_d7 rfl ?_
    refine wt_geti hE wt_lf_ap_101 (hD 0 (Nat.le_of_ble_eq_true rfl)) wt_L0 rfl wp_ap_image_d8 ?_
    refine wt_aload_n hE wp_ap_image_d11 rfl ?_
    refine wt_getr hE (r := 48) wt_lf_ap_50 (hD 0 (Nat.le_of_ble_eq_true rfl)) wt_L0 rfl wp_ap_image_d12 ?_
    refine wt_alen2 hE (3 : Int32) (hD 48 (Nat.le_of_ble_eq_true rfl)) wt_L48 rfl wp_ap_image_d15 ?_
    refine wt_icmp_lt hE 21 wp_ap_image_d16 rfl (fun c2 => ?_) (fun c2 => ?_)
    · have h := wt_ip c2 h
      refine wt_aload_n hE wp_ap_image_d21 rfl ?_
      refine wt_getr hE (r := 48) wt_lf_ap_50 (hD 0 (Nat.le_of_ble_eq_true rfl)) wt_L0 rfl wp_ap_image_d22 ?_
      refine wt_aload_n hE wp_ap_image_d25 rfl ?_
      refine wt_geti hE wt_lf_ap_101 (hD 0 (Nat.le_of_ble_eq_true rfl)) wt_L0 rfl wp_ap_image_d26 ?_
      obtain ⟨g3, h⟩ := wt_gd h
      have lg3 := wt_lt g3
      refine wt_aald2 hE (hD 48 (Nat.le_of_ble_eq_true rfl)) wt_L48 g3 wp_ap_image_d29 ?_
      refine wt_aload_n hE wp_ap_image_d30 rfl ?_
      refine wt_getr hE (r := 39) wt_lf_ap_46 (hD 0 (Nat.le_of_ble_eq_true rfl)) wt_L0 rfl wp_ap_image_d31 ?_
      obtain ⟨q4, hq4, h⟩ := wt_bi h
      refine wt_callVv hE [.ref (wt_ad (wt_xw X) 39)] wt_lm_ap_355 wt_ya_st_become (wp_st_become_ok (wt_imS lg3) (fun j hj => hD _ (by omega)) wt_isState_39 (fun j hj => hD (39 + j) (by omega)) hq4) (by omega) (hD _ (by omega)) (wt_imS lg3).1 rfl rfl rfl (Nat.le_of_ble_eq_true rfl) (Nat.zero_le _) wp_ap_image_d34 ?_
      refine wt_aload_n hE wp_ap_image_d37 rfl ?_
      refine wt_dup hE wp_ap_image_d38 rfl ?_
      refine wt_geti hE wt_lf_ap_101 (hD 0 (Nat.le_of_ble_eq_true rfl)) wt_L0 rfl wp_ap_image_d39 ?_
      refine wt_iconst hE (1 : Int32) wp_ap_image_d42 wt_ci_1 ?_
      refine wt_iadd hE wp_ap_image_d43 ?_
      refine wt_puti hE wt_lf_ap_101 (hD 0 (Nat.le_of_ble_eq_true rfl)) wt_L0 rfl (fun q hq => by cases hq; rfl) wp_ap_image_d44 ?_
      refine wt_aload_n hE wp_ap_image_d47 rfl ?_
      refine wt_geti hE wt_lf_ap_101 (hD 0 (Nat.le_of_ble_eq_true rfl)) wt_L0 rfl wp_ap_image_d48 ?_
      cases h
      exact wt_iret hE hR wp_ap_image_d51
    · have h := wt_in c2 h
      refine wt_iconst hE (-1 : Int32) wp_ap_image_d19 wt_ci_m1 ?_
      cases h
      exact wt_iret hE hR wp_ap_image_d20
