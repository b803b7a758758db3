def wb13m3_prog_6_method_5_code_r1 : List (List Nat) := [96, 61, 132, 3, 1, 167, 255, 225, 28, 172] :: []
def wb13m3_prog_6_method_5_code_r0 : List (List Nat) := [3, 61, 3, 62, 29, 42, 27, 182, 0, 29, 162, 0, 28, 28, 42, 180, 0, 15, 180, 0, 32, 27, 16, 12, 104, 29, 96, 184, 0, 25] :: wb13m3_prog_6_method_5_code_r1
set_option maxRecDepth 100000 in
theorem wb13m3_prog_6_method_5_code_c0 : wt_cs prog_6_method_5_code 0 wb13m3_prog_6_method_5_code_r0 := wt_cs_of (by decide +kernel)
theorem wb13m3_prog_6_method_5_code_c1 : wt_cs prog_6_method_5_code 30 wb13m3_prog_6_method_5_code_r1 := wt_cs_tl (m := 30) wb13m3_prog_6_method_5_code_c0 rfl rfl
theorem wp_sk_leftOfAll_d0 : decode prog_6_method_5_code 0 = .ok (.iconst 0, 1) := wt_op3 wb13m3_prog_6_method_5_code_c0 0 rfl rfl
theorem wp_sk_leftOfAll_d1 : decode prog_6_method_5_code 1 = .ok (.istore_n 2, 1) := wt_op61 wb13m3_prog_6_method_5_code_c0 1 rfl rfl
theorem wp_sk_leftOfAll_d2 : decode prog_6_method_5_code 2 = .ok (.iconst 0, 1) := wt_op3 wb13m3_prog_6_method_5_code_c0 2 rfl rfl
theorem wp_sk_leftOfAll_d3 : decode prog_6_method_5_code 3 = .ok (.istore_n 3, 1) := wt_op62 wb13m3_prog_6_method_5_code_c0 3 rfl rfl
theorem wp_sk_leftOfAll_d4 : decode prog_6_method_5_code 4 = .ok (.iload_n 3, 1) := wt_op29 wb13m3_prog_6_method_5_code_c0 4 rfl rfl
theorem wp_sk_leftOfAll_d5 : decode prog_6_method_5_code 5 = .ok (.aload_n 0, 1) := wt_op42 wb13m3_prog_6_method_5_code_c0 5 rfl rfl
theorem wp_sk_leftOfAll_d6 : decode prog_6_method_5_code 6 = .ok (.iload_n 1, 1) := wt_op27 wb13m3_prog_6_method_5_code_c0 6 rfl rfl
theorem wp_sk_leftOfAll_d7 : decode prog_6_method_5_code 7 = .ok (.invokevirtual 29, 3) := wt_op182 wb13m3_prog_6_method_5_code_c0 7 rfl rfl rfl
theorem wp_sk_leftOfAll_d10 : decode prog_6_method_5_code 10 = .ok (.if_icmp .ge 28, 3) := wt_op162 wb13m3_prog_6_method_5_code_c0 10 rfl rfl rfl
theorem wp_sk_leftOfAll_d13 : decode prog_6_method_5_code 13 = .ok (.iload_n 2, 1) := wt_op28 wb13m3_prog_6_method_5_code_c0 13 rfl rfl
theorem wp_sk_leftOfAll_d14 : decode prog_6_method_5_code 14 = .ok (.aload_n 0, 1) := wt_op42 wb13m3_prog_6_method_5_code_c0 14 rfl rfl
theorem wp_sk_leftOfAll_d15 : decode prog_6_method_5_code 15 = .ok (.getfield 15, 3) := wt_op180 wb13m3_prog_6_method_5_code_c0 15 rfl rfl rfl
theorem wp_sk_leftOfAll_d18 : decode prog_6_method_5_code 18 = .ok (.getfield 32, 3) := wt_op180 wb13m3_prog_6_method_5_code_c0 18 rfl rfl rfl
theorem wp_sk_leftOfAll_d21 : decode prog_6_method_5_code 21 = .ok (.iload_n 1, 1) := wt_op27 wb13m3_prog_6_method_5_code_c0 21 rfl rfl
theorem wp_sk_leftOfAll_d22 : decode prog_6_method_5_code 22 = .ok (.bipush 12, 2) := wt_op16 wb13m3_prog_6_method_5_code_c0 22 rfl rfl rfl
theorem wp_sk_leftOfAll_d24 : decode prog_6_method_5_code 24 = .ok (.imul, 1) := wt_op104 wb13m3_prog_6_method_5_code_c0 24 rfl rfl
theorem wp_sk_leftOfAll_d25 : decode prog_6_method_5_code 25 = .ok (.iload_n 3, 1) := wt_op29 wb13m3_prog_6_method_5_code_c0 25 rfl rfl
theorem wp_sk_leftOfAll_d26 : decode prog_6_method_5_code 26 = .ok (.iadd, 1) := wt_op96 wb13m3_prog_6_method_5_code_c0 26 rfl rfl
theorem wp_sk_leftOfAll_d27 : decode prog_6_method_5_code 27 = .ok (.invokestatic 25, 3) := wt_op184 wb13m3_prog_6_method_5_code_c0 27 rfl rfl rfl
theorem wp_sk_leftOfAll_d30 : decode prog_6_method_5_code 30 = .ok (.iadd, 1) := wt_op96 wb13m3_prog_6_method_5_code_c1 0 rfl rfl
theorem wp_sk_leftOfAll_d31 : decode prog_6_method_5_code 31 = .ok (.istore_n 2, 1) := wt_op61 wb13m3_prog_6_method_5_code_c1 1 rfl rfl
theorem wp_sk_leftOfAll_d32 : decode prog_6_method_5_code 32 = .ok (.iinc 3 1, 3) := wt_op132 wb13m3_prog_6_method_5_code_c1 2 rfl rfl rfl
theorem wp_sk_leftOfAll_d35 : decode prog_6_method_5_code 35 = .ok (.goto (-31), 3) := wt_op167 wb13m3_prog_6_method_5_code_c1 5 rfl rfl rfl
theorem wp_sk_leftOfAll_d38 : decode prog_6_method_5_code 38 = .ok (.iload_n 2, 1) := wt_op28 wb13m3_prog_6_method_5_code_c1 8 rfl rfl
theorem wp_sk_leftOfAll_d39 : decode prog_6_method_5_code 39 = .ok (.ireturn, 1) := wt_op172 wb13m3_prog_6_method_5_code_c1 9 rfl rfl
noncomputable def wp_sk_leftOfAll_B4 (n : Nat) (x1 : Int32) (K4 : Int32 × Int32 × wt_St → Option (Int32 × wt_St)) (s : Int32 × Int32 × wt_St) : Option (Int32 × wt_St) :=
  (wp_sk_pieces n x1 s.2.2).bind fun q1 =>
  if q1.1 ≤ s.2.1 then
    some (s.1, q1.2)
  else
    (wp_ap_look n 40 ((x1 * (12 : Int32)) + s.2.1) q1.2).bind fun q3 =>
    K4 ((s.1 + q3.1), (s.2.1 + (1 : Int32)), q3.2)
set_option maxRecDepth 100000 in
set_option maxHeartbeats 4000000 in
theorem wp_sk_leftOfAll_B4_ok  {x1 : Int32} {X : wt_X} {n : Nat} {res : Int32 × wt_St} (hE : wt_Ok X prog_6_method_5_code 4 "WornType$Stock" 2 0) (hR : wt_Rt X (some .int) (some res.1) res.2) (hD : ∀ i, i < 108 → wt_dom (wt_xw X) i)  {K4 : Int32 × Int32 × wt_St → Option (Int32 × wt_St)} (hK4 : ∀ s : Int32 × Int32 × wt_St, K4 s = some res → wt_V X 0 s.2.2 4 [some (.ref (wt_ad (wt_xw X) 76)), some (.int x1), some (.int s.1), some (.int s.2.1)] []) {s : Int32 × Int32 × wt_St} (h : wp_sk_leftOfAll_B4 n x1 K4 s = some res) : wt_V X 0 s.2.2 4 [some (.ref (wt_ad (wt_xw X) 76)), some (.int x1), some (.int s.1), some (.int s.2.1)] [] := by
  unfold wp_sk_leftOfAll_B4 at h
  refine wt_iload_n hE wp_sk_leftOfAll_d4 rfl ?_
  refine wt_aload_n hE wp_sk_leftOfAll_d5 rfl ?_
  refine wt_iload_n hE wp_sk_leftOfAll_d6 rfl ?_
  obtain ⟨q1, hq1, h⟩ := wt_bi h
  refine wt_callVi hE [.int x1] wt_lm_sk_29 wt_ya_sk_pieces (wp_sk_pieces_ok hD hq1) (by omega) (hD 76 (Nat.le_of_ble_eq_true rfl)) wt_L76 rfl rfl rfl (Nat.le_of_ble_eq_true rfl) (Nat.zero_le _) wp_sk_leftOfAll_d7 (fun hbq1 => ?_)
  refine wt_icmp_ge hE 38 wp_sk_leftOfAll_d10 rfl (fun c2 => ?_) (fun c2 => ?_)
  · have h := wt_ip c2 h
    refine wt_iload_n hE wp_sk_leftOfAll_d38 rfl ?_
    cases h
    exact wt_iret hE hR wp_sk_leftOfAll_d39
  · have h := wt_in c2 h
    refine wt_iload_n hE wp_sk_leftOfAll_d13 rfl ?_
    refine wt_aload_n hE wp_sk_leftOfAll_d14 rfl ?_
    refine wt_getr hE (r := 39) wt_lf_sk_15 (hD 76 (Nat.le_of_ble_eq_true rfl)) wt_L76 rfl wp_sk_leftOfAll_d15 ?_
    refine wt_getr hE (r := 40) wt_lf_sk_32 (hD 39 (Nat.le_of_ble_eq_true rfl)) wt_L39 rfl wp_sk_leftOfAll_d18 ?_
    refine wt_iload_n hE wp_sk_leftOfAll_d21 rfl ?_
    refine wt_bipush hE (12 : Int32) wp_sk_leftOfAll_d22 wt_cb_12 ?_
    refine wt_imul hE wp_sk_leftOfAll_d24 ?_
    refine wt_iload_n hE wp_sk_leftOfAll_d25 rfl ?_
    refine wt_iadd hE wp_sk_leftOfAll_d26 ?_
    obtain ⟨q3, hq3, h⟩ := wt_bi h
    refine wt_callSi hE [.ref (wt_ad (wt_xw X) 40), .int ((x1 * (12 : Int32)) + s.2.1)] wt_lm_sk_25 wt_ya_ap_look (wp_ap_look_ok (wt_lnE wt_L40) (hD 40 (Nat.le_of_ble_eq_true rfl)) hq3) (by omega) rfl rfl (Nat.le_of_ble_eq_true rfl) (Nat.zero_le _) wp_sk_leftOfAll_d27 (fun hbq3 => ?_)
    refine wt_iadd hE wp_sk_leftOfAll_d30 ?_
    refine wt_istore_n hE [some (.ref (wt_ad (wt_xw X) 76)), some (.int x1), some (.int (s.1 + q3.1)), some (.int s.2.1)] wp_sk_leftOfAll_d31 (by decide) rfl ?_
    refine wt_iinc hE (s.2.1 + (1 : Int32)) [some (.ref (wt_ad (wt_xw X) 76)), some (.int x1), some (.int (s.1 + q3.1)), some (.int (s.2.1 + (1 : Int32)))] wp_sk_leftOfAll_d32 (by decide) rfl rfl rfl ?_
    refine wt_goto hE 4 wp_sk_leftOfAll_d35 rfl ?_
    exact hK4 ((s.1 + q3.1), (s.2.1 + (1 : Int32)), q3.2) h
noncomputable def wp_sk_leftOfAll (n : Nat) (x1 : Int32) (σ : wt_St) : Option (Int32 × wt_St) :=
  wt_it (wp_sk_leftOfAll_B4 n x1) n ((0 : Int32), (0 : Int32), σ)
set_option maxRecDepth 100000 in
set_option maxHeartbeats 4000000 in
theorem wp_sk_leftOfAll_ok {l : Launch} {w : wt_E} {n : Nat} {x1 : Int32} (hD : ∀ i, i < 108 → wt_dom w i) {σ : wt_St} {q : Int32 × wt_St} (h : wp_sk_leftOfAll n x1 σ = some q) : wt_Ctr l w wt_y_sk_leftOfAll prog_6_method_5_code 4 (some .int) 2 [.ref (wt_ad w 76), .int x1] σ (some q.1) q.2 := by
  refine wt_ctr wt_pl_sk_leftOfAll rfl (Nat.le_of_ble_eq_true rfl) [some (.ref (wt_ad w 76)), some (.int x1), none, none] rfl ?_
  intro X hXl hXw hE hR
  subst hXl
  subst hXw
  have hE : wt_Ok X prog_6_method_5_code 4 "WornType$Stock" 2 0 := hE
  unfold wp_sk_leftOfAll at h
  refine wt_iconst hE (0 : Int32) wp_sk_leftOfAll_d0 wt_ci_0 ?_
  refine wt_istore_n hE [some (.ref (wt_ad (wt_xw X) 76)), some (.int x1), some (.int (0 : Int32)), none] wp_sk_leftOfAll_d1 (by decide) rfl ?_
  refine wt_iconst hE (0 : Int32) wp_sk_leftOfAll_d2 wt_ci_0 ?_
  refine wt_istore_n hE [some (.ref (wt_ad (wt_xw X) 76)), some (.int x1), some (.int (0 : Int32)), some (.int (0 : Int32))] wp_sk_leftOfAll_d3 (by decide) rfl ?_
  exact wt_it_ind (fun z => wt_V X 0 z.2.2 4 [some (.ref (wt_ad (wt_xw X) 76)), some (.int x1), some (.int z.1), some (.int z.2.1)] []) (fun K hK z h => wp_sk_leftOfAll_B4_ok hE hR hD hK h) n ((0 : Int32), (0 : Int32), σ) h
def wb13m3_prog_6_method_7_code_r1 : List (List Nat) := [184, 0, 45, 61, 132, 3, 1, 167, 255, 223, 28, 172] :: []
def wb13m3_prog_6_method_7_code_r0 : List (List Nat) := [3, 61, 3, 62, 29, 42, 27, 182, 0, 29, 162, 0, 30, 28, 42, 180, 0, 15, 180, 0, 32, 27, 16, 12, 104, 29, 96, 184, 0, 25] :: wb13m3_prog_6_method_7_code_r1
set_option maxRecDepth 100000 in
theorem wb13m3_prog_6_method_7_code_c0 : wt_cs prog_6_method_7_code 0 wb13m3_prog_6_method_7_code_r0 := wt_cs_of (by decide +kernel)
theorem wb13m3_prog_6_method_7_code_c1 : wt_cs prog_6_method_7_code 30 wb13m3_prog_6_method_7_code_r1 := wt_cs_tl (m := 30) wb13m3_prog_6_method_7_code_c0 rfl rfl
theorem wp_sk_mostLeft_d0 : decode prog_6_method_7_code 0 = .ok (.iconst 0, 1) := wt_op3 wb13m3_prog_6_method_7_code_c0 0 rfl rfl
theorem wp_sk_mostLeft_d1 : decode prog_6_method_7_code 1 = .ok (.istore_n 2, 1) := wt_op61 wb13m3_prog_6_method_7_code_c0 1 rfl rfl
theorem wp_sk_mostLeft_d2 : decode prog_6_method_7_code 2 = .ok (.iconst 0, 1) := wt_op3 wb13m3_prog_6_method_7_code_c0 2 rfl rfl
theorem wp_sk_mostLeft_d3 : decode prog_6_method_7_code 3 = .ok (.istore_n 3, 1) := wt_op62 wb13m3_prog_6_method_7_code_c0 3 rfl rfl
theorem wp_sk_mostLeft_d4 : decode prog_6_method_7_code 4 = .ok (.iload_n 3, 1) := wt_op29 wb13m3_prog_6_method_7_code_c0 4 rfl rfl
theorem wp_sk_mostLeft_d5 : decode prog_6_method_7_code 5 = .ok (.aload_n 0, 1) := wt_op42 wb13m3_prog_6_method_7_code_c0 5 rfl rfl
theorem wp_sk_mostLeft_d6 : decode prog_6_method_7_code 6 = .ok (.iload_n 1, 1) := wt_op27 wb13m3_prog_6_method_7_code_c0 6 rfl rfl
theorem wp_sk_mostLeft_d7 : decode prog_6_method_7_code 7 = .ok (.invokevirtual 29, 3) := wt_op182 wb13m3_prog_6_method_7_code_c0 7 rfl rfl rfl
theorem wp_sk_mostLeft_d10 : decode prog_6_method_7_code 10 = .ok (.if_icmp .ge 30, 3) := wt_op162 wb13m3_prog_6_method_7_code_c0 10 rfl rfl rfl
theorem wp_sk_mostLeft_d13 : decode prog_6_method_7_code 13 = .ok (.iload_n 2, 1) := wt_op28 wb13m3_prog_6_method_7_code_c0 13 rfl rfl
theorem wp_sk_mostLeft_d14 : decode prog_6_method_7_code 14 = .ok (.aload_n 0, 1) := wt_op42 wb13m3_prog_6_method_7_code_c0 14 rfl rfl
theorem wp_sk_mostLeft_d15 : decode prog_6_method_7_code 15 = .ok (.getfield 15, 3) := wt_op180 wb13m3_prog_6_method_7_code_c0 15 rfl rfl rfl
theorem wp_sk_mostLeft_d18 : decode prog_6_method_7_code 18 = .ok (.getfield 32, 3) := wt_op180 wb13m3_prog_6_method_7_code_c0 18 rfl rfl rfl
theorem wp_sk_mostLeft_d21 : decode prog_6_method_7_code 21 = .ok (.iload_n 1, 1) := wt_op27 wb13m3_prog_6_method_7_code_c0 21 rfl rfl
theorem wp_sk_mostLeft_d22 : decode prog_6_method_7_code 22 = .ok (.bipush 12, 2) := wt_op16 wb13m3_prog_6_method_7_code_c0 22 rfl rfl rfl
theorem wp_sk_mostLeft_d24 : decode prog_6_method_7_code 24 = .ok (.imul, 1) := wt_op104 wb13m3_prog_6_method_7_code_c0 24 rfl rfl
theorem wp_sk_mostLeft_d25 : decode prog_6_method_7_code 25 = .ok (.iload_n 3, 1) := wt_op29 wb13m3_prog_6_method_7_code_c0 25 rfl rfl
theorem wp_sk_mostLeft_d26 : decode prog_6_method_7_code 26 = .ok (.iadd, 1) := wt_op96 wb13m3_prog_6_method_7_code_c0 26 rfl rfl
theorem wp_sk_mostLeft_d27 : decode prog_6_method_7_code 27 = .ok (.invokestatic 25, 3) := wt_op184 wb13m3_prog_6_method_7_code_c0 27 rfl rfl rfl
theorem wp_sk_mostLeft_d30 : decode prog_6_method_7_code 30 = .ok (.invokestatic 45, 3) := wt_op184 wb13m3_prog_6_method_7_code_c1 0 rfl rfl rfl
theorem wp_sk_mostLeft_d33 : decode prog_6_method_7_code 33 = .ok (.istore_n 2, 1) := wt_op61 wb13m3_prog_6_method_7_code_c1 3 rfl rfl
theorem wp_sk_mostLeft_d34 : decode prog_6_method_7_code 34 = .ok (.iinc 3 1, 3) := wt_op132 wb13m3_prog_6_method_7_code_c1 4 rfl rfl rfl
theorem wp_sk_mostLeft_d37 : decode prog_6_method_7_code 37 = .ok (.goto (-33), 3) := wt_op167 wb13m3_prog_6_method_7_code_c1 7 rfl rfl rfl
theorem wp_sk_mostLeft_d40 : decode prog_6_method_7_code 40 = .ok (.iload_n 2, 1) := wt_op28 wb13m3_prog_6_method_7_code_c1 10 rfl rfl
theorem wp_sk_mostLeft_d41 : decode prog_6_method_7_code 41 = .ok (.ireturn, 1) := wt_op172 wb13m3_prog_6_method_7_code_c1 11 rfl rfl
noncomputable def wp_sk_mostLeft_B4 (n : Nat) (x1 : Int32) (K4 : Int32 × Int32 × wt_St → Option (Int32 × wt_St)) (s : Int32 × Int32 × wt_St) : Option (Int32 × wt_St) :=
  (wp_sk_pieces n x1 s.2.2).bind fun q1 =>
  if q1.1 ≤ s.2.1 then
    some (s.1, q1.2)
  else
    (wp_ap_look n 40 ((x1 * (12 : Int32)) + s.2.1) q1.2).bind fun q3 =>
    K4 ((if s.1 < q3.1 then q3.1 else s.1), (s.2.1 + (1 : Int32)), q3.2)
set_option maxRecDepth 100000 in
set_option maxHeartbeats 4000000 in
theorem wp_sk_mostLeft_B4_ok  {x1 : Int32} {X : wt_X} {n : Nat} {res : Int32 × wt_St} (hE : wt_Ok X prog_6_method_7_code 4 "WornType$Stock" 2 0) (hR : wt_Rt X (some .int) (some res.1) res.2) (hD : ∀ i, i < 108 → wt_dom (wt_xw X) i)  {K4 : Int32 × Int32 × wt_St → Option (Int32 × wt_St)} (hK4 : ∀ s : Int32 × Int32 × wt_St, K4 s = some res → wt_V X 0 s.2.2 4 [some (.ref (wt_ad (wt_xw X) 76)), some (.int x1), some (.int s.1), some (.int s.2.1)] []) {s : Int32 × Int32 × wt_St} (h : wp_sk_mostLeft_B4 n x1 K4 s = some res) : wt_V X 0 s.2.2 4 [some (.ref (wt_ad (wt_xw X) 76)), some (.int x1), some (.int s.1), some (.int s.2.1)] [] := by
  unfold wp_sk_mostLeft_B4 at h
  refine wt_iload_n hE wp_sk_mostLeft_d4 rfl ?_
  refine wt_aload_n hE wp_sk_mostLeft_d5 rfl ?_
  refine wt_iload_n hE wp_sk_mostLeft_d6 rfl ?_
  obtain ⟨q1, hq1, h⟩ := wt_bi h
  refine wt_callVi hE [.int x1] wt_lm_sk_29 wt_ya_sk_pieces (wp_sk_pieces_ok hD hq1) (by omega) (hD 76 (Nat.le_of_ble_eq_true rfl)) wt_L76 rfl rfl rfl (Nat.le_of_ble_eq_true rfl) (Nat.zero_le _) wp_sk_mostLeft_d7 (fun hbq1 => ?_)
  refine wt_icmp_ge hE 40 wp_sk_mostLeft_d10 rfl (fun c2 => ?_) (fun c2 => ?_)
  · have h := wt_ip c2 h
    refine wt_iload_n hE wp_sk_mostLeft_d40 rfl ?_
    cases h
    exact wt_iret hE hR wp_sk_mostLeft_d41
  · have h := wt_in c2 h
    refine wt_iload_n hE wp_sk_mostLeft_d13 rfl ?_
    refine wt_aload_n hE wp_sk_mostLeft_d14 rfl ?_
    refine wt_getr hE (r := 39) wt_lf_sk_15 (hD 76 (Nat.le_of_ble_eq_true rfl)) wt_L76 rfl wp_sk_mostLeft_d15 ?_
    refine wt_getr hE (r := 40) wt_lf_sk_32 (hD 39 (Nat.le_of_ble_eq_true rfl)) wt_L39 rfl wp_sk_mostLeft_d18 ?_
    refine wt_iload_n hE wp_sk_mostLeft_d21 rfl ?_
    refine wt_bipush hE (12 : Int32) wp_sk_mostLeft_d22 wt_cb_12 ?_
    refine wt_imul hE wp_sk_mostLeft_d24 ?_
    refine wt_iload_n hE wp_sk_mostLeft_d25 rfl ?_
    refine wt_iadd hE wp_sk_mostLeft_d26 ?_
    obtain ⟨q3, hq3, h⟩ := wt_bi h
    refine wt_callSi hE [.ref (wt_ad (wt_xw X) 40), .int ((x1 * (12 : Int32)) + s.2.1)] wt_lm_sk_25 wt_ya_ap_look (wp_ap_look_ok (wt_lnE wt_L40) (hD 40 (Nat.le_of_ble_eq_true rfl)) hq3) (by omega) rfl rfl (Nat.le_of_ble_eq_true rfl) (Nat.zero_le _) wp_sk_mostLeft_d27 (fun hbq3 => ?_)
    refine wt_max hE wt_lm_sk_45 wt_ms_max wt_mi wt_mc_max (by omega) (Nat.zero_le _) (Nat.le_of_ble_eq_true rfl) wp_sk_mostLeft_d30 ?_
    refine wt_istore_n hE [some (.ref (wt_ad (wt_xw X) 76)), some (.int x1), some (.int (if s.1 < q3.1 then q3.1 else s.1)), some (.int s.2.1)] wp_sk_mostLeft_d33 (by decide) rfl ?_
    refine wt_iinc hE (s.2.1 + (1 : Int32)) [some (.ref (wt_ad (wt_xw X) 76)), some (.int x1), some (.int (if s.1 < q3.1 then q3.1 else s.1)), some (.int (s.2.1 + (1 : Int32)))] wp_sk_mostLeft_d34 (by decide) rfl rfl rfl ?_
    refine wt_goto hE 4 wp_sk_mostLeft_d37 rfl ?_
    exact hK4 ((if s.1 < q3.1 then q3.1 else s.1), (s.2.1 + (1 : Int32)), q3.2) h
noncomputable def wp_sk_mostLeft (n : Nat) (x1 : Int32) (σ : wt_St) : Option (Int32 × wt_St) :=
  wt_it (wp_sk_mostLeft_B4 n x1) n ((0 : Int32), (0 : Int32), σ)
set_option maxRecDepth 100000 in
set_option maxHeartbeats 4000000 in
theorem wp_sk_mostLeft_ok {l : Launch} {w : wt_E} {n : Nat} {x1 : Int32} (hD : ∀ i, i < 108 → wt_dom w i) {σ : wt_St} {q : Int32 × wt_St} (h : wp_sk_mostLeft n x1 σ = some q) : wt_Ctr l w wt_y_sk_mostLeft prog_6_method_7_code 4 (some .int) 2 [.ref (wt_ad w 76), .int x1] σ (some q.1) q.2 := by
  refine wt_ctr wt_pl_sk_mostLeft rfl (Nat.le_of_ble_eq_true rfl) [some (.ref (wt_ad w 76)), some (.int x1), none, none] rfl ?_
  intro X hXl hXw hE hR
  subst hXl
  subst hXw
  have hE : wt_Ok X prog_6_method_7_code 4 "WornType$Stock" 2 0 := hE
  unfold wp_sk_mostLeft at h
  refine wt_iconst hE (0 : Int32) wp_sk_mostLeft_d0 wt_ci_0 ?_
  refine wt_istore_n hE [some (.ref (wt_ad (wt_xw X) 76)), some (.int x1), some (.int (0 : Int32)), none] wp_sk_mostLeft_d1 (by decide) rfl ?_
  refine wt_iconst hE (0 : Int32) wp_sk_mostLeft_d2 wt_ci_0 ?_
  refine wt_istore_n hE [some (.ref (wt_ad (wt_xw X) 76)), some (.int x1), some (.int (0 : Int32)), some (.int (0 : Int32))] wp_sk_mostLeft_d3 (by decide) rfl ?_
  exact wt_it_ind (fun z => wt_V X 0 z.2.2 4 [some (.ref (wt_ad (wt_xw X) 76)), some (.int x1), some (.int z.1), some (.int z.2.1)] []) (fun K hK z h => wp_sk_mostLeft_B4_ok hE hR hD hK h) n ((0 : Int32), (0 : Int32), σ) h
def wb13m3_prog_6_method_8_code_r1 : List (List Nat) := [154, 0, 7, 4, 167, 0, 4, 3, 96, 61, 132, 3, 1, 167, 255, 217, 28, 172] :: []
def wb13m3_prog_6_method_8_code_r0 : List (List Nat) := [3, 61, 3, 62, 29, 42, 27, 182, 0, 29, 162, 0, 36, 28, 42, 180, 0, 15, 180, 0, 32, 27, 16, 12, 104, 29, 96, 184, 0, 25] :: wb13m3_prog_6_method_8_code_r1
set_option maxRecDepth 100000 in
theorem wb13m3_prog_6_method_8_code_c0 : wt_cs prog_6_method_8_code 0 wb13m3_prog_6_method_8_code_r0 := wt_cs_of (by decide +kernel)
theorem wb13m3_prog_6_method_8_code_c1 : wt_cs prog_6_method_8_code 30 wb13m3_prog_6_method_8_code_r1 := wt_cs_tl (m := 30) wb13m3_prog_6_method_8_code_c0 rfl rfl
theorem wp_sk_wornOut_d0 : decode prog_6_method_8_code 0 = .ok (.iconst 0, 1) := wt_op3 wb13m3_prog_6_method_8_code_c0 0 rfl rfl
theorem wp_sk_wornOut_d1 : decode prog_6_method_8_code 1 = .ok (.istore_n 2, 1) := wt_op61 wb13m3_prog_6_method_8_code_c0 1 rfl rfl
theorem wp_sk_wornOut_d2 : decode prog_6_method_8_code 2 = .ok (.iconst 0, 1) := wt_op3 wb13m3_prog_6_method_8_code_c0 2 rfl rfl
theorem wp_sk_wornOut_d3 : decode prog_6_method_8_code 3 = .ok (.istore_n 3, 1) := wt_op62 wb13m3_prog_6_method_8_code_c0 3 rfl rfl
theorem wp_sk_wornOut_d4 : decode prog_6_method_8_code 4 = .ok (.iload_n 3, 1) := wt_op29 wb13m3_prog_6_method_8_code_c0 4 rfl rfl
theorem wp_sk_wornOut_d5 : decode prog_6_method_8_code 5 = .ok (.aload_n 0, 1) := wt_op42 wb13m3_prog_6_method_8_code_c0 5 rfl rfl
theorem wp_sk_wornOut_d6 : decode prog_6_method_8_code 6 = .ok (.iload_n 1, 1) := wt_op27 wb13m3_prog_6_method_8_code_c0 6 rfl rfl
theorem wp_sk_wornOut_d7 : decode prog_6_method_8_code 7 = .ok (.invokevirtual 29, 3) := wt_op182 wb13m3_prog_6_method_8_code_c0 7 rfl rfl rfl
theorem wp_sk_wornOut_d10 : decode prog_6_method_8_code 10 = .ok (.if_icmp .ge 36, 3) := wt_op162 wb13m3_prog_6_method_8_code_c0 10 rfl rfl rfl
theorem wp_sk_wornOut_d13 : decode prog_6_method_8_code 13 = .ok (.iload_n 2, 1) := wt_op28 wb13m3_prog_6_method_8_code_c0 13 rfl rfl
theorem wp_sk_wornOut_d14 : decode prog_6_method_8_code 14 = .ok (.aload_n 0, 1) := wt_op42 wb13m3_prog_6_method_8_code_c0 14 rfl rfl
theorem wp_sk_wornOut_d15 : decode prog_6_method_8_code 15 = .ok (.getfield 15, 3) := wt_op180 wb13m3_prog_6_method_8_code_c0 15 rfl rfl rfl
theorem wp_sk_wornOut_d18 : decode prog_6_method_8_code 18 = .ok (.getfield 32, 3) := wt_op180 wb13m3_prog_6_method_8_code_c0 18 rfl rfl rfl
theorem wp_sk_wornOut_d21 : decode prog_6_method_8_code 21 = .ok (.iload_n 1, 1) := wt_op27 wb13m3_prog_6_method_8_code_c0 21 rfl rfl
theorem wp_sk_wornOut_d22 : decode prog_6_method_8_code 22 = .ok (.bipush 12, 2) := wt_op16 wb13m3_prog_6_method_8_code_c0 22 rfl rfl rfl
theorem wp_sk_wornOut_d24 : decode prog_6_method_8_code 24 = .ok (.imul, 1) := wt_op104 wb13m3_prog_6_method_8_code_c0 24 rfl rfl
theorem wp_sk_wornOut_d25 : decode prog_6_method_8_code 25 = .ok (.iload_n 3, 1) := wt_op29 wb13m3_prog_6_method_8_code_c0 25 rfl rfl
theorem wp_sk_wornOut_d26 : decode prog_6_method_8_code 26 = .ok (.iadd, 1) := wt_op96 wb13m3_prog_6_method_8_code_c0 26 rfl rfl
theorem wp_sk_wornOut_d27 : decode prog_6_method_8_code 27 = .ok (.invokestatic 25, 3) := wt_op184 wb13m3_prog_6_method_8_code_c0 27 rfl rfl rfl
theorem wp_sk_wornOut_d30 : decode prog_6_method_8_code 30 = .ok (.ifCond .ne 7, 3) := wt_op154 wb13m3_prog_6_method_8_code_c1 0 rfl rfl rfl
theorem wp_sk_wornOut_d33 : decode prog_6_method_8_code 33 = .ok (.iconst 1, 1) := wt_op4 wb13m3_prog_6_method_8_code_c1 3 rfl rfl
theorem wp_sk_wornOut_d34 : decode prog_6_method_8_code 34 = .ok (.goto 4, 3) := wt_op167 wb13m3_prog_6_method_8_code_c1 4 rfl rfl rfl
theorem wp_sk_wornOut_d37 : decode prog_6_method_8_code 37 = .ok (.iconst 0, 1) := wt_op3 wb13m3_prog_6_method_8_code_c1 7 rfl rfl
theorem wp_sk_wornOut_d38 : decode prog_6_method_8_code 38 = .ok (.iadd, 1) := wt_op96 wb13m3_prog_6_method_8_code_c1 8 rfl rfl
theorem wp_sk_wornOut_d39 : decode prog_6_method_8_code 39 = .ok (.istore_n 2, 1) := wt_op61 wb13m3_prog_6_method_8_code_c1 9 rfl rfl
theorem wp_sk_wornOut_d40 : decode prog_6_method_8_code 40 = .ok (.iinc 3 1, 3) := wt_op132 wb13m3_prog_6_method_8_code_c1 10 rfl rfl rfl
theorem wp_sk_wornOut_d43 : decode prog_6_method_8_code 43 = .ok (.goto (-39), 3) := wt_op167 wb13m3_prog_6_method_8_code_c1 13 rfl rfl rfl
theorem wp_sk_wornOut_d46 : decode prog_6_method_8_code 46 = .ok (.iload_n 2, 1) := wt_op28 wb13m3_prog_6_method_8_code_c1 16 rfl rfl
theorem wp_sk_wornOut_d47 : decode prog_6_method_8_code 47 = .ok (.ireturn, 1) := wt_op172 wb13m3_prog_6_method_8_code_c1 17 rfl rfl
noncomputable def wp_sk_wornOut_B38 (n : Nat) (x1 : Int32) (x3 : Int32) (K4 : Int32 × Int32 × wt_St → Option (Int32 × wt_St)) (y0 : Int32) (y1 : Int32) (σ : wt_St) : Option (Int32 × wt_St) :=
  K4 ((y0 + y1), (x3 + (1 : Int32)), σ)
set_option maxRecDepth 100000 in
set_option maxHeartbeats 4000000 in
theorem wp_sk_wornOut_B38_ok  {x1 : Int32} {x3 : Int32} {X : wt_X} {n : Nat} {res : Int32 × wt_St} (hE : wt_Ok X prog_6_method_8_code 4 "WornType$Stock" 2 0) (hR : wt_Rt X (some .int) (some res.1) res.2) (hD : ∀ i, i < 108 → wt_dom (wt_xw X) i)  {K4 : Int32 × Int32 × wt_St → Option (Int32 × wt_St)} (hK4 : ∀ s : Int32 × Int32 × wt_St, K4 s = some res → wt_V X 0 s.2.2 4 [some (.ref (wt_ad (wt_xw X) 76)), some (.int x1), some (.int s.1), some (.int s.2.1)] []) {σ : wt_St} {y0 : Int32} {y1 : Int32} (h : wp_sk_wornOut_B38 n x1 x3 K4 y0 y1 σ = some res) : wt_V X 0 σ 38 [some (.ref (wt_ad (wt_xw X) 76)), some (.int x1), none, some (.int x3)] [.int y1, .int y0] := by
  unfold wp_sk_wornOut_B38 at h
  refine wt_iadd hE wp_sk_wornOut_d38 ?_
  refine wt_istore_n hE [some (.ref (wt_ad (wt_xw X) 76)), some (.int x1), some (.int (y0 + y1)), some (.int x3)] wp_sk_wornOut_d39 (by decide) rfl ?_
  refine wt_iinc hE (x3 + (1 : Int32)) [some (.ref (wt_ad (wt_xw X) 76)), some (.int x1), some (.int (y0 + y1)), some (.int (x3 + (1 : Int32)))] wp_sk_wornOut_d40 (by decide) rfl rfl rfl ?_
  refine wt_goto hE 4 wp_sk_wornOut_d43 rfl ?_
  exact hK4 ((y0 + y1), (x3 + (1 : Int32)), σ) h
noncomputable def wp_sk_wornOut_B4 (n : Nat) (x1 : Int32) (K4 : Int32 × Int32 × wt_St → Option (Int32 × wt_St)) (s : Int32 × Int32 × wt_St) : Option (Int32 × wt_St) :=
  (wp_sk_pieces n x1 s.2.2).bind fun q1 =>
  if q1.1 ≤ s.2.1 then
    some (s.1, q1.2)
  else
    (wp_ap_look n 40 ((x1 * (12 : Int32)) + s.2.1) q1.2).bind fun q3 =>
    if q3.1 = 0 then
      wp_sk_wornOut_B38 n x1 s.2.1 K4 s.1 (1 : Int32) q3.2
    else
      wp_sk_wornOut_B38 n x1 s.2.1 K4 s.1 (0 : Int32) q3.2
set_option maxRecDepth 100000 in
set_option maxHeartbeats 4000000 in
theorem wp_sk_wornOut_B4_ok  {x1 : Int32} {X : wt_X} {n : Nat} {res : Int32 × wt_St} (hE : wt_Ok X prog_6_method_8_code 4 "WornType$Stock" 2 0) (hR : wt_Rt X (some .int) (some res.1) res.2) (hD : ∀ i, i < 108 → wt_dom (wt_xw X) i)  {K4 : Int32 × Int32 × wt_St → Option (Int32 × wt_St)} (hK4 : ∀ s : Int32 × Int32 × wt_St, K4 s = some res → wt_V X 0 s.2.2 4 [some (.ref (wt_ad (wt_xw X) 76)), some (.int x1), some (.int s.1), some (.int s.2.1)] []) {s : Int32 × Int32 × wt_St} (h : wp_sk_wornOut_B4 n x1 K4 s = some res) : wt_V X 0 s.2.2 4 [some (.ref (wt_ad (wt_xw X) 76)), some (.int x1), some (.int s.1), some (.int s.2.1)] [] := by
  unfold wp_sk_wornOut_B4 at h
  refine wt_iload_n hE wp_sk_wornOut_d4 rfl ?_
  refine wt_aload_n hE wp_sk_wornOut_d5 rfl ?_
  refine wt_iload_n hE wp_sk_wornOut_d6 rfl ?_
  obtain ⟨q1, hq1, h⟩ := wt_bi h
  refine wt_callVi hE [.int x1] wt_lm_sk_29 wt_ya_sk_pieces (wp_sk_pieces_ok hD hq1) (by omega) (hD 76 (Nat.le_of_ble_eq_true rfl)) wt_L76 rfl rfl rfl (Nat.le_of_ble_eq_true rfl) (Nat.zero_le _) wp_sk_wornOut_d7 (fun hbq1 => ?_)
  refine wt_icmp_ge hE 46 wp_sk_wornOut_d10 rfl (fun c2 => ?_) (fun c2 => ?_)
  · have h := wt_ip c2 h
    refine wt_iload_n hE wp_sk_wornOut_d46 rfl ?_
    cases h
    exact wt_iret hE hR wp_sk_wornOut_d47
  · have h := wt_in c2 h
    refine wt_iload_n hE wp_sk_wornOut_d13 rfl ?_
    refine wt_aload_n hE wp_sk_wornOut_d14 rfl ?_
    refine wt_getr hE (r := 39) wt_lf_sk_15 (hD 76 (Nat.le_of_ble_eq_true rfl)) wt_L76 rfl wp_sk_wornOut_d15 ?_
    refine wt_getr hE (r := 40) wt_lf_sk_32 (hD 39 (Nat.le_of_ble_eq_true rfl)) wt_L39 rfl wp_sk_wornOut_d18 ?_
    refine wt_iload_n hE wp_sk_wornOut_d21 rfl ?_
    refine wt_bipush hE (12 : Int32) wp_sk_wornOut_d22 wt_cb_12 ?_
    refine wt_imul hE wp_sk_wornOut_d24 ?_
    refine wt_iload_n hE wp_sk_wornOut_d25 rfl ?_
    refine wt_iadd hE wp_sk_wornOut_d26 ?_
    obtain ⟨q3, hq3, h⟩ := wt_bi h
    refine wt_callSi hE [.ref (wt_ad (wt_xw X) 40), .int ((x1 * (12 : Int32)) + s.2.1)] wt_lm_sk_25 wt_ya_ap_look (wp_ap_look_ok (wt_lnE wt_L40) (hD 40 (Nat.le_of_ble_eq_true rfl)) hq3) (by omega) rfl rfl (Nat.le_of_ble_eq_true rfl) (Nat.zero_le _) wp_sk_wornOut_d27 (fun hbq3 => ?_)
    refine wt_if_ne hE 37 wp_sk_wornOut_d30 rfl (fun c4 => ?_) (fun c4 => ?_)
    · have h := wt_in c4 h
      refine wt_iconst hE (0 : Int32) wp_sk_wornOut_d37 wt_ci_0 ?_
      refine wt_wk [true, true, false, true] rfl ?_
      exact wp_sk_wornOut_B38_ok hE hR hD hK4 h
    · have h := wt_ip c4 h
      refine wt_iconst hE (1 : Int32) wp_sk_wornOut_d33 wt_ci_1 ?_
      refine wt_goto hE 38 wp_sk_wornOut_d34 rfl ?_
      refine wt_wk [true, true, false, true] rfl ?_
      exact wp_sk_wornOut_B38_ok hE hR hD hK4 h
noncomputable def wp_sk_wornOut (n : Nat) (x1 : Int32) (σ : wt_St) : Option (Int32 × wt_St) :=
  wt_it (wp_sk_wornOut_B4 n x1) n ((0 : Int32), (0 : Int32), σ)
set_option maxRecDepth 100000 in
set_option maxHeartbeats 4000000 in
theorem wp_sk_wornOut_ok {l : Launch} {w : wt_E} {n : Nat} {x1 : Int32} (hD : ∀ i, i < 108 → wt_dom w i) {σ : wt_St} {q : Int32 × wt_St} (h : wp_sk_wornOut n x1 σ = some q) : wt_Ctr l w wt_y_sk_wornOut prog_6_method_8_code 4 (some .int) 2 [.ref (wt_ad w 76), .int x1] σ (some q.1) q.2 := by
  refine wt_ctr wt_pl_sk_wornOut rfl (Nat.le_of_ble_eq_true rfl) [some (.ref (wt_ad w 76)), some (.int x1), none, none] rfl ?_
  intro X hXl hXw hE hR
  subst hXl
  subst hXw
  have hE : wt_Ok X prog_6_method_8_code 4 "WornType$Stock" 2 0 := hE
  unfold wp_sk_wornOut at h
  refine wt_iconst hE (0 : Int32) wp_sk_wornOut_d0 wt_ci_0 ?_
  refine wt_istore_n hE [some (.ref (wt_ad (wt_xw X) 76)), some (.int x1), some (.int (0 : Int32)), none] wp_sk_wornOut_d1 (by decide) rfl ?_
  refine wt_iconst hE (0 : Int32) wp_sk_wornOut_d2 wt_ci_0 ?_
  refine wt_istore_n hE [some (.ref (wt_ad (wt_xw X) 76)), some (.int x1), some (.int (0 : Int32)), some (.int (0 : Int32))] wp_sk_wornOut_d3 (by decide) rfl ?_
  exact wt_it_ind (fun z => wt_V X 0 z.2.2 4 [some (.ref (wt_ad (wt_xw X) 76)), some (.int x1), some (.int z.1), some (.int z.2.1)] []) (fun K hK z h => wp_sk_wornOut_B4_ok hE hR hD hK h) n ((0 : Int32), (0 : Int32), σ) h
def wb13m3_prog_11_method_5_code_r1 : List (List Nat) := [3, 96, 60, 132, 2, 1, 167, 255, 226, 27, 172] :: []
def wb13m3_prog_11_method_5_code_r0 : List (List Nat) := [3, 60, 3, 61, 28, 42, 180, 0, 9, 180, 0, 93, 162, 0, 25, 27, 42, 28, 182, 0, 96, 154, 0, 7, 4, 167, 0, 4] :: wb13m3_prog_11_method_5_code_r1
set_option maxRecDepth 100000 in
theorem wb13m3_prog_11_method_5_code_c0 : wt_cs prog_11_method_5_code 0 wb13m3_prog_11_method_5_code_r0 := wt_cs_of (by decide +kernel)
theorem wb13m3_prog_11_method_5_code_c1 : wt_cs prog_11_method_5_code 28 wb13m3_prog_11_method_5_code_r1 := wt_cs_tl (m := 28) wb13m3_prog_11_method_5_code_c0 rfl rfl
theorem wp_wk_wordsLost_d0 : decode prog_11_method_5_code 0 = .ok (.iconst 0, 1) := wt_op3 wb13m3_prog_11_method_5_code_c0 0 rfl rfl
theorem wp_wk_wordsLost_d1 : decode prog_11_method_5_code 1 = .ok (.istore_n 1, 1) := wt_op60 wb13m3_prog_11_method_5_code_c0 1 rfl rfl
theorem wp_wk_wordsLost_d2 : decode prog_11_method_5_code 2 = .ok (.iconst 0, 1) := wt_op3 wb13m3_prog_11_method_5_code_c0 2 rfl rfl
theorem wp_wk_wordsLost_d3 : decode prog_11_method_5_code 3 = .ok (.istore_n 2, 1) := wt_op61 wb13m3_prog_11_method_5_code_c0 3 rfl rfl
theorem wp_wk_wordsLost_d4 : decode prog_11_method_5_code 4 = .ok (.iload_n 2, 1) := wt_op28 wb13m3_prog_11_method_5_code_c0 4 rfl rfl
theorem wp_wk_wordsLost_d5 : decode prog_11_method_5_code 5 = .ok (.aload_n 0, 1) := wt_op42 wb13m3_prog_11_method_5_code_c0 5 rfl rfl
theorem wp_wk_wordsLost_d6 : decode prog_11_method_5_code 6 = .ok (.getfield 9, 3) := wt_op180 wb13m3_prog_11_method_5_code_c0 6 rfl rfl rfl
theorem wp_wk_wordsLost_d9 : decode prog_11_method_5_code 9 = .ok (.getfield 93, 3) := wt_op180 wb13m3_prog_11_method_5_code_c0 9 rfl rfl rfl
theorem wp_wk_wordsLost_d12 : decode prog_11_method_5_code 12 = .ok (.if_icmp .ge 25, 3) := wt_op162 wb13m3_prog_11_method_5_code_c0 12 rfl rfl rfl
theorem wp_wk_wordsLost_d15 : decode prog_11_method_5_code 15 = .ok (.iload_n 1, 1) := wt_op27 wb13m3_prog_11_method_5_code_c0 15 rfl rfl
theorem wp_wk_wordsLost_d16 : decode prog_11_method_5_code 16 = .ok (.aload_n 0, 1) := wt_op42 wb13m3_prog_11_method_5_code_c0 16 rfl rfl
theorem wp_wk_wordsLost_d17 : decode prog_11_method_5_code 17 = .ok (.iload_n 2, 1) := wt_op28 wb13m3_prog_11_method_5_code_c0 17 rfl rfl
theorem wp_wk_wordsLost_d18 : decode prog_11_method_5_code 18 = .ok (.invokevirtual 96, 3) := wt_op182 wb13m3_prog_11_method_5_code_c0 18 rfl rfl rfl
theorem wp_wk_wordsLost_d21 : decode prog_11_method_5_code 21 = .ok (.ifCond .ne 7, 3) := wt_op154 wb13m3_prog_11_method_5_code_c0 21 rfl rfl rfl
theorem wp_wk_wordsLost_d24 : decode prog_11_method_5_code 24 = .ok (.iconst 1, 1) := wt_op4 wb13m3_prog_11_method_5_code_c0 24 rfl rfl
theorem wp_wk_wordsLost_d25 : decode prog_11_method_5_code 25 = .ok (.goto 4, 3) := wt_op167 wb13m3_prog_11_method_5_code_c0 25 rfl rfl rfl
theorem wp_wk_wordsLost_d28 : decode prog_11_method_5_code 28 = .ok (.iconst 0, 1) := wt_op3 wb13m3_prog_11_method_5_code_c1 0 rfl rfl
theorem wp_wk_wordsLost_d29 : decode prog_11_method_5_code 29 = .ok (.iadd, 1) := wt_op96 wb13m3_prog_11_method_5_code_c1 1 rfl rfl
theorem wp_wk_wordsLost_d30 : decode prog_11_method_5_code 30 = .ok (.istore_n 1, 1) := wt_op60 wb13m3_prog_11_method_5_code_c1 2 rfl rfl
theorem wp_wk_wordsLost_d31 : decode prog_11_method_5_code 31 = .ok (.iinc 2 1, 3) := wt_op132 wb13m3_prog_11_method_5_code_c1 3 rfl rfl rfl
theorem wp_wk_wordsLost_d34 : decode prog_11_method_5_code 34 = .ok (.goto (-30), 3) := wt_op167 wb13m3_prog_11_method_5_code_c1 6 rfl rfl rfl
theorem wp_wk_wordsLost_d37 : decode prog_11_method_5_code 37 = .ok (.iload_n 1, 1) := wt_op27 wb13m3_prog_11_method_5_code_c1 9 rfl rfl
theorem wp_wk_wordsLost_d38 : decode prog_11_method_5_code 38 = .ok (.ireturn, 1) := wt_op172 wb13m3_prog_11_method_5_code_c1 10 rfl rfl
noncomputable def wp_wk_wordsLost_B29 (n : Nat) (x2 : Int32) (K4 : Int32 × Int32 × wt_St → Option (Int32 × wt_St)) (y0 : Int32) (y1 : Int32) (σ : wt_St) : Option (Int32 × wt_St) :=
  K4 ((y0 + y1), (x2 + (1 : Int32)), σ)
set_option maxRecDepth 100000 in
set_option maxHeartbeats 4000000 in
theorem wp_wk_wordsLost_B29_ok  {x2 : Int32} {X : wt_X} {n : Nat} {res : Int32 × wt_St} (hE : wt_Ok X prog_11_method_5_code 3 "WornType$Weeks" 6 0) (hR : wt_Rt X (some .int) (some res.1) res.2) (hD : ∀ i, i < 108 → wt_dom (wt_xw X) i)  {K4 : Int32 × Int32 × wt_St → Option (Int32 × wt_St)} (hK4 : ∀ s : Int32 × Int32 × wt_St, K4 s = some res → wt_V X 0 s.2.2 4 [some (.ref (wt_ad (wt_xw X) 86)), some (.int s.1), some (.int s.2.1)] []) {σ : wt_St} {y0 : Int32} {y1 : Int32} (h : wp_wk_wordsLost_B29 n x2 K4 y0 y1 σ = some res) : wt_V X 0 σ 29 [some (.ref (wt_ad (wt_xw X) 86)), none, some (.int x2)] [.int y1, .int y0] := by
  unfold wp_wk_wordsLost_B29 at h
  refine wt_iadd hE wp_wk_wordsLost_d29 ?_
  refine wt_istore_n hE [some (.ref (wt_ad (wt_xw X) 86)), some (.int (y0 + y1)), some (.int x2)] wp_wk_wordsLost_d30 (by decide) rfl ?_
  refine wt_iinc hE (x2 + (1 : Int32)) [some (.ref (wt_ad (wt_xw X) 86)), some (.int (y0 + y1)), some (.int (x2 + (1 : Int32)))] wp_wk_wordsLost_d31 (by decide) rfl rfl rfl ?_
  refine wt_goto hE 4 wp_wk_wordsLost_d34 rfl ?_
  exact hK4 ((y0 + y1), (x2 + (1 : Int32)), σ) h
noncomputable def wp_wk_wordsLost_B4 (n : Nat) (K4 : Int32 × Int32 × wt_St → Option (Int32 × wt_St)) (s : Int32 × Int32 × wt_St) : Option (Int32 × wt_St) :=
  if (wt_gf s.2.2 20 6) ≤ s.2.1 then
    some (s.1, s.2.2)
  else
    (wp_wk_stillSaid n s.2.1 s.2.2).bind fun q2 =>
    if q2.1 = 0 then
      wp_wk_wordsLost_B29 n s.2.1 K4 s.1 (1 : Int32) q2.2
    else
      wp_wk_wordsLost_B29 n s.2.1 K4 s.1 (0 : Int32) q2.2
set_option maxRecDepth 100000 in
set_option maxHeartbeats 4000000 in
theorem wp_wk_wordsLost_B4_ok  {X : wt_X} {n : Nat} {res : Int32 × wt_St} (hE : wt_Ok X prog_11_method_5_code 3 "WornType$Weeks" 6 0) (hR : wt_Rt X (some .int) (some res.1) res.2) (hD : ∀ i, i < 108 → wt_dom (wt_xw X) i)  {K4 : Int32 × Int32 × wt_St → Option (Int32 × wt_St)} (hK4 : ∀ s : Int32 × Int32 × wt_St, K4 s = some res → wt_V X 0 s.2.2 4 [some (.ref (wt_ad (wt_xw X) 86)), some (.int s.1), some (.int s.2.1)] []) {s : Int32 × Int32 × wt_St} (h : wp_wk_wordsLost_B4 n K4 s = some res) : wt_V X 0 s.2.2 4 [some (.ref (wt_ad (wt_xw X) 86)), some (.int s.1), some (.int s.2.1)] [] := by
  unfold wp_wk_wordsLost_B4 at h
  refine wt_iload_n hE wp_wk_wordsLost_d4 rfl ?_
  refine wt_aload_n hE wp_wk_wordsLost_d5 rfl ?_
  refine wt_getr hE (r := 20) wt_lf_wk_9 (hD 86 (Nat.le_of_ble_eq_true rfl)) wt_L86 rfl wp_wk_wordsLost_d6 ?_
  refine wt_geti hE wt_lf_wk_93 (hD 20 (Nat.le_of_ble_eq_true rfl)) wt_L20 rfl wp_wk_wordsLost_d9 ?_
  refine wt_icmp_ge hE 37 wp_wk_wordsLost_d12 rfl (fun c1 => ?_) (fun c1 => ?_)
  · have h := wt_ip c1 h
    refine wt_iload_n hE wp_wk_wordsLost_d37 rfl ?_
    cases h
    exact wt_iret hE hR wp_wk_wordsLost_d38
  · have h := wt_in c1 h
    refine wt_iload_n hE wp_wk_wordsLost_d15 rfl ?_
    refine wt_aload_n hE wp_wk_wordsLost_d16 rfl ?_
    refine wt_iload_n hE wp_wk_wordsLost_d17 rfl ?_
    obtain ⟨q2, hq2, h⟩ := wt_bi h
    refine wt_callVi hE [.int s.2.1] wt_lm_wk_96 wt_ya_wk_stillSaid (wp_wk_stillSaid_ok hD hq2) (by omega) (hD 86 (Nat.le_of_ble_eq_true rfl)) wt_L86 rfl rfl rfl (Nat.le_of_ble_eq_true rfl) (Nat.zero_le _) wp_wk_wordsLost_d18 (fun hbq2 => ?_)
    refine wt_if_ne hE 28 wp_wk_wordsLost_d21 rfl (fun c3 => ?_) (fun c3 => ?_)
    · have h := wt_in c3 h
      refine wt_iconst hE (0 : Int32) wp_wk_wordsLost_d28 wt_ci_0 ?_
      refine wt_wk [true, false, true] rfl ?_
      exact wp_wk_wordsLost_B29_ok hE hR hD hK4 h
    · have h := wt_ip c3 h
      refine wt_iconst hE (1 : Int32) wp_wk_wordsLost_d24 wt_ci_1 ?_
      refine wt_goto hE 29 wp_wk_wordsLost_d25 rfl ?_
      refine wt_wk [true, false, true] rfl ?_
      exact wp_wk_wordsLost_B29_ok hE hR hD hK4 h
noncomputable def wp_wk_wordsLost (n : Nat) (σ : wt_St) : Option (Int32 × wt_St) :=
  wt_it (wp_wk_wordsLost_B4 n) n ((0 : Int32), (0 : Int32), σ)
set_option maxRecDepth 100000 in
set_option maxHeartbeats 4000000 in
theorem wp_wk_wordsLost_ok {l : Launch} {w : wt_E} {n : Nat} (hD : ∀ i, i < 108 → wt_dom w i) {σ : wt_St} {q : Int32 × wt_St} (h : wp_wk_wordsLost n σ = some q) : wt_Ctr l w wt_y_wk_wordsLost prog_11_method_5_code 3 (some .int) 6 [.ref (wt_ad w 86)] σ (some q.1) q.2 := by
  refine wt_ctr wt_pl_wk_wordsLost rfl (Nat.le_of_ble_eq_true rfl) [some (.ref (wt_ad w 86)), none, none] rfl ?_
  intro X hXl hXw hE hR
  subst hXl
  subst hXw
  have hE : wt_Ok X prog_11_method_5_code 3 "WornType$Weeks" 6 0 := hE
  unfold wp_wk_wordsLost at h
  refine wt_iconst hE (0 : Int32) wp_wk_wordsLost_d0 wt_ci_0 ?_
  refine wt_istore_n hE [some (.ref (wt_ad (wt_xw X) 86)), some (.int (0 : Int32)), none] wp_wk_wordsLost_d1 (by decide) rfl ?_
  refine wt_iconst hE (0 : Int32) wp_wk_wordsLost_d2 wt_ci_0 ?_
  refine wt_istore_n hE [some (.ref (wt_ad (wt_xw X) 86)), some (.int (0 : Int32)), some (.int (0 : Int32))] wp_wk_wordsLost_d3 (by decide) rfl ?_
  exact wt_it_ind (fun z => wt_V X 0 z.2.2 4 [some (.ref (wt_ad (wt_xw X) 86)), some (.int z.1), some (.int z.2.1)] []) (fun K hK z h => wp_wk_wordsLost_B4_ok hE hR hD hK h) n ((0 : Int32), (0 : Int32), σ) h
def wb13m3_prog_11_method_9_code_r1 : List (List Nat) := [42, 28, 181, 0, 49, 42, 89, 180, 0, 52, 4, 96, 181, 0, 52, 177] :: []
def wb13m3_prog_11_method_9_code_r0 : List (List Nat) := [27, 42, 180, 0, 45, 163, 0, 19, 27, 42, 180, 0, 45, 160, 0, 21, 28, 42, 180, 0, 49, 162, 0, 13, 42, 27, 181, 0, 45] :: wb13m3_prog_11_method_9_code_r1
set_option maxRecDepth 100000 in
theorem wb13m3_prog_11_method_9_code_c0 : wt_cs prog_11_method_9_code 0 wb13m3_prog_11_method_9_code_r0 := wt_cs_of (by decide +kernel)
theorem wb13m3_prog_11_method_9_code_c1 : wt_cs prog_11_method_9_code 29 wb13m3_prog_11_method_9_code_r1 := wt_cs_tl (m := 29) wb13m3_prog_11_method_9_code_c0 rfl rfl
theorem wp_wk_keep_d0 : decode prog_11_method_9_code 0 = .ok (.iload_n 1, 1) := wt_op27 wb13m3_prog_11_method_9_code_c0 0 rfl rfl
theorem wp_wk_keep_d1 : decode prog_11_method_9_code 1 = .ok (.aload_n 0, 1) := wt_op42 wb13m3_prog_11_method_9_code_c0 1 rfl rfl
theorem wp_wk_keep_d2 : decode prog_11_method_9_code 2 = .ok (.getfield 45, 3) := wt_op180 wb13m3_prog_11_method_9_code_c0 2 rfl rfl rfl
theorem wp_wk_keep_d5 : decode prog_11_method_9_code 5 = .ok (.if_icmp .gt 19, 3) := wt_op163 wb13m3_prog_11_method_9_code_c0 5 rfl rfl rfl
theorem wp_wk_keep_d8 : decode prog_11_method_9_code 8 = .ok (.iload_n 1, 1) := wt_op27 wb13m3_prog_11_method_9_code_c0 8 rfl rfl
theorem wp_wk_keep_d9 : decode prog_11_method_9_code 9 = .ok (.aload_n 0, 1) := wt_op42 wb13m3_prog_11_method_9_code_c0 9 rfl rfl
theorem wp_wk_keep_d10 : decode prog_11_method_9_code 10 = .ok (.getfield 45, 3) := wt_op180 wb13m3_prog_11_method_9_code_c0 10 rfl rfl rfl
theorem wp_wk_keep_d13 : decode prog_11_method_9_code 13 = .ok (.if_icmp .ne 21, 3) := wt_op160 wb13m3_prog_11_method_9_code_c0 13 rfl rfl rfl
theorem wp_wk_keep_d16 : decode prog_11_method_9_code 16 = .ok (.iload_n 2, 1) := wt_op28 wb13m3_prog_11_method_9_code_c0 16 rfl rfl
theorem wp_wk_keep_d17 : decode prog_11_method_9_code 17 = .ok (.aload_n 0, 1) := wt_op42 wb13m3_prog_11_method_9_code_c0 17 rfl rfl
theorem wp_wk_keep_d18 : decode prog_11_method_9_code 18 = .ok (.getfield 49, 3) := wt_op180 wb13m3_prog_11_method_9_code_c0 18 rfl rfl rfl
theorem wp_wk_keep_d21 : decode prog_11_method_9_code 21 = .ok (.if_icmp .ge 13, 3) := wt_op162 wb13m3_prog_11_method_9_code_c0 21 rfl rfl rfl
theorem wp_wk_keep_d24 : decode prog_11_method_9_code 24 = .ok (.aload_n 0, 1) := wt_op42 wb13m3_prog_11_method_9_code_c0 24 rfl rfl
theorem wp_wk_keep_d25 : decode prog_11_method_9_code 25 = .ok (.iload_n 1, 1) := wt_op27 wb13m3_prog_11_method_9_code_c0 25 rfl rfl
theorem wp_wk_keep_d26 : decode prog_11_method_9_code 26 = .ok (.putfield 45, 3) := wt_op181 wb13m3_prog_11_method_9_code_c0 26 rfl rfl rfl
theorem wp_wk_keep_d29 : decode prog_11_method_9_code 29 = .ok (.aload_n 0, 1) := wt_op42 wb13m3_prog_11_method_9_code_c1 0 rfl rfl
theorem wp_wk_keep_d30 : decode prog_11_method_9_code 30 = .ok (.iload_n 2, 1) := wt_op28 wb13m3_prog_11_method_9_code_c1 1 rfl rfl
theorem wp_wk_keep_d31 : decode prog_11_method_9_code 31 = .ok (.putfield 49, 3) := wt_op181 wb13m3_prog_11_method_9_code_c1 2 rfl rfl rfl
theorem wp_wk_keep_d34 : decode prog_11_method_9_code 34 = .ok (.aload_n 0, 1) := wt_op42 wb13m3_prog_11_method_9_code_c1 5 rfl rfl
theorem wp_wk_keep_d35 : decode prog_11_method_9_code 35 = .ok (.dup, 1) := wt_op89 wb13m3_prog_11_method_9_code_c1 6 rfl rfl
theorem wp_wk_keep_d36 : decode prog_11_method_9_code 36 = .ok (.getfield 52, 3) := wt_op180 wb13m3_prog_11_method_9_code_c1 7 rfl rfl rfl
theorem wp_wk_keep_d39 : decode prog_11_method_9_code 39 = .ok (.iconst 1, 1) := wt_op4 wb13m3_prog_11_method_9_code_c1 10 rfl rfl
theorem wp_wk_keep_d40 : decode prog_11_method_9_code 40 = .ok (.iadd, 1) := wt_op96 wb13m3_prog_11_method_9_code_c1 11 rfl rfl
theorem wp_wk_keep_d41 : decode prog_11_method_9_code 41 = .ok (.putfield 52, 3) := wt_op181 wb13m3_prog_11_method_9_code_c1 12 rfl rfl rfl
theorem wp_wk_keep_d44 : decode prog_11_method_9_code 44 = .ok (.return_, 1) := wt_op177 wb13m3_prog_11_method_9_code_c1 15 rfl rfl
noncomputable def wp_wk_keep_B34 (n : Nat) (σ : wt_St) : Option (wt_St) :=
  some (wt_sf σ 86 10 ((wt_gf σ 86 10) + (1 : Int32)))
set_option maxRecDepth 100000 in
set_option maxHeartbeats 4000000 in
theorem wp_wk_keep_B34_ok  {X : wt_X} {n : Nat} {res : wt_St} (hE : wt_Ok X prog_11_method_9_code 3 "WornType$Weeks" 0 0) (hR : wt_Rt X none none res) (hD : ∀ i, i < 108 → wt_dom (wt_xw X) i)  {σ : wt_St} (h : wp_wk_keep_B34 n σ = some res) : wt_V X 0 σ 34 [some (.ref (wt_ad (wt_xw X) 86)), none, none] [] := by
  unfold wp_wk_keep_B34 at h
  refine wt_aload_n hE wp_wk_keep_d34 rfl ?_
  refine wt_dup hE wp_wk_keep_d35 rfl ?_
  refine wt_geti hE wt_lf_wk_52 (hD 86 (Nat.le_of_ble_eq_true rfl)) wt_L86 rfl wp_wk_keep_d36 ?_
  refine wt_iconst hE (1 : Int32) wp_wk_keep_d39 wt_ci_1 ?_
  refine wt_iadd hE wp_wk_keep_d40 ?_
  refine wt_puti hE wt_lf_wk_52 (hD 86 (Nat.le_of_ble_eq_true rfl)) wt_L86 rfl (fun q hq => by cases hq; rfl) wp_wk_keep_d41 ?_
  cases h
  exact wt_vret hE hR wp_wk_keep_d44
noncomputable def wp_wk_keep_B24 (n : Nat) (x1 : Int32) (x2 : Int32) (σ : wt_St) : Option (wt_St) :=
  wp_wk_keep_B34 n (wt_sf (wt_sf σ 86 8 x1) 86 9 x2)
set_option maxRecDepth 100000 in
set_option maxHeartbeats 4000000 in
theorem wp_wk_keep_B24_ok  {x1 : Int32} {x2 : Int32} {X : wt_X} {n : Nat} {res : wt_St} (hE : wt_Ok X prog_11_method_9_code 3 "WornType$Weeks" 0 0) (hR : wt_Rt X none none res) (hD : ∀ i, i < 108 → wt_dom (wt_xw X) i)  {σ : wt_St} (h : wp_wk_keep_B24 n x1 x2 σ = some res) : wt_V X 0 σ 24 [some (.ref (wt_ad (wt_xw X) 86)), some (.int x1), some (.int x2)] [] := by
  unfold wp_wk_keep_B24 at h
  refine wt_aload_n hE wp_wk_keep_d24 rfl ?_
  refine wt_iload_n hE wp_wk_keep_d25 rfl ?_
  refine wt_puti hE wt_lf_wk_45 (hD 86 (Nat.le_of_ble_eq_true rfl)) wt_L86 rfl (fun q hq => by cases hq; rfl) wp_wk_keep_d26 ?_
  refine wt_aload_n hE wp_wk_keep_d29 rfl ?_
  refine wt_iload_n hE wp_wk_keep_d30 rfl ?_
  refine wt_puti hE wt_lf_wk_49 (hD 86 (Nat.le_of_ble_eq_true rfl)) wt_L86 rfl (fun q hq => by cases hq; rfl) wp_wk_keep_d31 ?_
  refine wt_wk [true, false, false] rfl ?_
  exact wp_wk_keep_B34_ok hE hR hD h
noncomputable def wp_wk_keep (n : Nat) (x1 : Int32) (x2 : Int32) (σ : wt_St) : Option (wt_St) :=
  if (wt_gf σ 86 8) < x1 then
    wp_wk_keep_B24 n x1 x2 σ
  else
    if x1 = (wt_gf σ 86 8) then
      if (wt_gf σ 86 9) ≤ x2 then
        wp_wk_keep_B34 n σ
      else
        wp_wk_keep_B24 n x1 x2 σ
    else
      wp_wk_keep_B34 n σ
set_option maxRecDepth 100000 in
set_option maxHeartbeats 4000000 in
theorem wp_wk_keep_ok {l : Launch} {w : wt_E} {n : Nat} {x1 : Int32} {x2 : Int32} (hD : ∀ i, i < 108 → wt_dom w i) {σ : wt_St} {q : wt_St} (h : wp_wk_keep n x1 x2 σ = some q) : wt_Ctr l w wt_y_wk_keep prog_11_method_9_code 3 none 0 [.ref (wt_ad w 86), .int x1, .int x2] σ none q := by
  refine wt_ctr wt_pl_wk_keep rfl (Nat.le_of_ble_eq_true rfl) [some (.ref (wt_ad w 86)), some (.int x1), some (.int x2)] rfl ?_
  intro X hXl hXw hE hR
  subst hXl
  subst hXw
  have hE : wt_Ok X prog_11_method_9_code 3 "WornType$Weeks" 0 0 := hE
  unfold wp_wk_keep at h
  refine wt_iload_n hE wp_wk_keep_d0 rfl ?_
  refine wt_aload_n hE wp_wk_keep_d1 rfl ?_
  refine wt_geti hE wt_lf_wk_45 (hD 86 (Nat.le_of_ble_eq_true rfl)) wt_L86 rfl wp_wk_keep_d2 ?_
  refine wt_icmp_gt hE 24 wp_wk_keep_d5 rfl (fun c1 => ?_) (fun c1 => ?_)
  · have h := wt_ip c1 h
    exact wp_wk_keep_B24_ok hE hR hD h
  · have h := wt_in c1 h
    refine wt_iload_n hE wp_wk_keep_d8 rfl ?_
    refine wt_aload_n hE wp_wk_keep_d9 rfl ?_
    refine wt_geti hE wt_lf_wk_45 (hD 86 (Nat.le_of_ble_eq_true rfl)) wt_L86 rfl wp_wk_keep_d10 ?_
    refine wt_icmp_ne hE 34 wp_wk_keep_d13 rfl (fun c2 => ?_) (fun c2 => ?_)
    · have h := wt_in c2 h
      refine wt_wk [true, false, false] rfl ?_
      exact wp_wk_keep_B34_ok hE hR hD h
    · have h := wt_ip c2 h
      refine wt_iload_n hE wp_wk_keep_d16 rfl ?_
      refine wt_aload_n hE wp_wk_keep_d17 rfl ?_
      refine wt_geti hE wt_lf_wk_49 (hD 86 (Nat.le_of_ble_eq_true rfl)) wt_L86 rfl wp_wk_keep_d18 ?_
      refine wt_icmp_ge hE 34 wp_wk_keep_d21 rfl (fun c3 => ?_) (fun c3 => ?_)
      · have h := wt_ip c3 h
        refine wt_wk [true, false, false] rfl ?_
        exact wp_wk_keep_B34_ok hE hR hD h
      · have h := wt_in c3 h
        exact wp_wk_keep_B24_ok hE hR hD h
def wb13m3_prog_11_method_8_code_r3 : List (List Nat) := [42, 180, 0, 19, 180, 0, 121, 21, 6, 184, 0, 70, 96, 21, 4, 4, 21, 6, 120, 128, 184, 0, 60, 177] :: []
def wb13m3_prog_11_method_8_code_r2 : List (List Nat) := [42, 180, 0, 36, 28, 184, 0, 70, 54, 6, 42, 21, 6, 25, 5, 182, 0, 117, 153, 0, 33, 42, 25, 5, 28, 4, 96, 29] :: wb13m3_prog_11_method_8_code_r3
def wb13m3_prog_11_method_8_code_r1 : List (List Nat) := [182, 0, 109, 177, 42, 43, 28, 4, 96, 29, 21, 4, 184, 0, 60, 42, 180, 0, 29, 28, 50, 58, 5, 43, 25, 5, 184, 0, 113] :: wb13m3_prog_11_method_8_code_r2
def wb13m3_prog_11_method_8_code_r0 : List (List Nat) := [28, 155, 0, 23, 28, 42, 180, 0, 19, 180, 0, 67, 162, 0, 12, 28, 42, 180, 0, 29, 190, 161, 0, 11, 42, 29, 21, 4] :: wb13m3_prog_11_method_8_code_r1
set_option maxRecDepth 100000 in
theorem wb13m3_prog_11_method_8_code_c0 : wt_cs prog_11_method_8_code 0 wb13m3_prog_11_method_8_code_r0 := wt_cs_of (by decide +kernel)
theorem wb13m3_prog_11_method_8_code_c1 : wt_cs prog_11_method_8_code 28 wb13m3_prog_11_method_8_code_r1 := wt_cs_tl (m := 28) wb13m3_prog_11_method_8_code_c0 rfl rfl
theorem wb13m3_prog_11_method_8_code_c2 : wt_cs prog_11_method_8_code 57 wb13m3_prog_11_method_8_code_r2 := wt_cs_tl (m := 29) wb13m3_prog_11_method_8_code_c1 rfl rfl
theorem wb13m3_prog_11_method_8_code_c3 : wt_cs prog_11_method_8_code 85 wb13m3_prog_11_method_8_code_r3 := wt_cs_tl (m := 28) wb13m3_prog_11_method_8_code_c2 rfl rfl
theorem wp_wk_tryFrom_d0 : decode prog_11_method_8_code 0 = .ok (.iload_n 2, 1) := wt_op28 wb13m3_prog_11_method_8_code_c0 0 rfl rfl
theorem wp_wk_tryFrom_d1 : decode prog_11_method_8_code 1 = .ok (.ifCond .lt 23, 3) := wt_op155 wb13m3_prog_11_method_8_code_c0 1 rfl rfl rfl
theorem wp_wk_tryFrom_d4 : decode prog_11_method_8_code 4 = .ok (.iload_n 2, 1) := wt_op28 wb13m3_prog_11_method_8_code_c0 4 rfl rfl
theorem wp_wk_tryFrom_d5 : decode prog_11_method_8_code 5 = .ok (.aload_n 0, 1) := wt_op42 wb13m3_prog_11_method_8_code_c0 5 rfl rfl
theorem wp_wk_tryFrom_d6 : decode prog_11_method_8_code 6 = .ok (.getfield 19, 3) := wt_op180 wb13m3_prog_11_method_8_code_c0 6 rfl rfl rfl
theorem wp_wk_tryFrom_d9 : decode prog_11_method_8_code 9 = .ok (.getfield 67, 3) := wt_op180 wb13m3_prog_11_method_8_code_c0 9 rfl rfl rfl
theorem wp_wk_tryFrom_d12 : decode prog_11_method_8_code 12 = .ok (.if_icmp .ge 12, 3) := wt_op162 wb13m3_prog_11_method_8_code_c0 12 rfl rfl rfl
theorem wp_wk_tryFrom_d15 : decode prog_11_method_8_code 15 = .ok (.iload_n 2, 1) := wt_op28 wb13m3_prog_11_method_8_code_c0 15 rfl rfl
theorem wp_wk_tryFrom_d16 : decode prog_11_method_8_code 16 = .ok (.aload_n 0, 1) := wt_op42 wb13m3_prog_11_method_8_code_c0 16 rfl rfl
theorem wp_wk_tryFrom_d17 : decode prog_11_method_8_code 17 = .ok (.getfield 29, 3) := wt_op180 wb13m3_prog_11_method_8_code_c0 17 rfl rfl rfl
theorem wp_wk_tryFrom_d20 : decode prog_11_method_8_code 20 = .ok (.arraylength, 1) := wt_op190 wb13m3_prog_11_method_8_code_c0 20 rfl rfl
theorem wp_wk_tryFrom_d21 : decode prog_11_method_8_code 21 = .ok (.if_icmp .lt 11, 3) := wt_op161 wb13m3_prog_11_method_8_code_c0 21 rfl rfl rfl
theorem wp_wk_tryFrom_d24 : decode prog_11_method_8_code 24 = .ok (.aload_n 0, 1) := wt_op42 wb13m3_prog_11_method_8_code_c0 24 rfl rfl
theorem wp_wk_tryFrom_d25 : decode prog_11_method_8_code 25 = .ok (.iload_n 3, 1) := wt_op29 wb13m3_prog_11_method_8_code_c0 25 rfl rfl
theorem wp_wk_tryFrom_d26 : decode prog_11_method_8_code 26 = .ok (.iload 4, 2) := wt_op21 wb13m3_prog_11_method_8_code_c0 26 rfl rfl
theorem wp_wk_tryFrom_d28 : decode prog_11_method_8_code 28 = .ok (.invokevirtual 109, 3) := wt_op182 wb13m3_prog_11_method_8_code_c1 0 rfl rfl rfl
theorem wp_wk_tryFrom_d31 : decode prog_11_method_8_code 31 = .ok (.return_, 1) := wt_op177 wb13m3_prog_11_method_8_code_c1 3 rfl rfl
theorem wp_wk_tryFrom_d32 : decode prog_11_method_8_code 32 = .ok (.aload_n 0, 1) := wt_op42 wb13m3_prog_11_method_8_code_c1 4 rfl rfl
theorem wp_wk_tryFrom_d33 : decode prog_11_method_8_code 33 = .ok (.aload_n 1, 1) := wt_op43 wb13m3_prog_11_method_8_code_c1 5 rfl rfl
theorem wp_wk_tryFrom_d34 : decode prog_11_method_8_code 34 = .ok (.iload_n 2, 1) := wt_op28 wb13m3_prog_11_method_8_code_c1 6 rfl rfl
theorem wp_wk_tryFrom_d35 : decode prog_11_method_8_code 35 = .ok (.iconst 1, 1) := wt_op4 wb13m3_prog_11_method_8_code_c1 7 rfl rfl
theorem wp_wk_tryFrom_d36 : decode prog_11_method_8_code 36 = .ok (.iadd, 1) := wt_op96 wb13m3_prog_11_method_8_code_c1 8 rfl rfl
theorem wp_wk_tryFrom_d37 : decode prog_11_method_8_code 37 = .ok (.iload_n 3, 1) := wt_op29 wb13m3_prog_11_method_8_code_c1 9 rfl rfl
theorem wp_wk_tryFrom_d38 : decode prog_11_method_8_code 38 = .ok (.iload 4, 2) := wt_op21 wb13m3_prog_11_method_8_code_c1 10 rfl rfl
theorem wp_wk_tryFrom_d40 : decode prog_11_method_8_code 40 = .ok (.invokestatic 60, 3) := wt_op184 wb13m3_prog_11_method_8_code_c1 12 rfl rfl rfl
theorem wp_wk_tryFrom_d43 : decode prog_11_method_8_code 43 = .ok (.aload_n 0, 1) := wt_op42 wb13m3_prog_11_method_8_code_c1 15 rfl rfl
theorem wp_wk_tryFrom_d44 : decode prog_11_method_8_code 44 = .ok (.getfield 29, 3) := wt_op180 wb13m3_prog_11_method_8_code_c1 16 rfl rfl rfl
theorem wp_wk_tryFrom_d47 : decode prog_11_method_8_code 47 = .ok (.iload_n 2, 1) := wt_op28 wb13m3_prog_11_method_8_code_c1 19 rfl rfl
theorem wp_wk_tryFrom_d48 : decode prog_11_method_8_code 48 = .ok (.aaload, 1) := wt_op50 wb13m3_prog_11_method_8_code_c1 20 rfl rfl
theorem wp_wk_tryFrom_d49 : decode prog_11_method_8_code 49 = .ok (.astore 5, 2) := wt_op58 wb13m3_prog_11_method_8_code_c1 21 rfl rfl
theorem wp_wk_tryFrom_d51 : decode prog_11_method_8_code 51 = .ok (.aload_n 1, 1) := wt_op43 wb13m3_prog_11_method_8_code_c1 23 rfl rfl
theorem wp_wk_tryFrom_d52 : decode prog_11_method_8_code 52 = .ok (.aload 5, 2) := wt_op25 wb13m3_prog_11_method_8_code_c1 24 rfl rfl
theorem wp_wk_tryFrom_d54 : decode prog_11_method_8_code 54 = .ok (.invokestatic 113, 3) := wt_op184 wb13m3_prog_11_method_8_code_c1 26 rfl rfl rfl
theorem wp_wk_tryFrom_d57 : decode prog_11_method_8_code 57 = .ok (.aload_n 0, 1) := wt_op42 wb13m3_prog_11_method_8_code_c2 0 rfl rfl
theorem wp_wk_tryFrom_d58 : decode prog_11_method_8_code 58 = .ok (.getfield 36, 3) := wt_op180 wb13m3_prog_11_method_8_code_c2 1 rfl rfl rfl
theorem wp_wk_tryFrom_d61 : decode prog_11_method_8_code 61 = .ok (.iload_n 2, 1) := wt_op28 wb13m3_prog_11_method_8_code_c2 4 rfl rfl
theorem wp_wk_tryFrom_d62 : decode prog_11_method_8_code 62 = .ok (.invokestatic 70, 3) := wt_op184 wb13m3_prog_11_method_8_code_c2 5 rfl rfl rfl
theorem wp_wk_tryFrom_d65 : decode prog_11_method_8_code 65 = .ok (.istore 6, 2) := wt_op54 wb13m3_prog_11_method_8_code_c2 8 rfl rfl
theorem wp_wk_tryFrom_d67 : decode prog_11_method_8_code 67 = .ok (.aload_n 0, 1) := wt_op42 wb13m3_prog_11_method_8_code_c2 10 rfl rfl
theorem wp_wk_tryFrom_d68 : decode prog_11_method_8_code 68 = .ok (.iload 6, 2) := wt_op21 wb13m3_prog_11_method_8_code_c2 11 rfl rfl
theorem wp_wk_tryFrom_d70 : decode prog_11_method_8_code 70 = .ok (.aload 5, 2) := wt_op25 wb13m3_prog_11_method_8_code_c2 13 rfl rfl
theorem wp_wk_tryFrom_d72 : decode prog_11_method_8_code 72 = .ok (.invokevirtual 117, 3) := wt_op182 wb13m3_prog_11_method_8_code_c2 15 rfl rfl rfl
theorem wp_wk_tryFrom_d75 : decode prog_11_method_8_code 75 = .ok (.ifCond .eq 33, 3) := wt_op153 wb13m3_prog_11_method_8_code_c2 18 rfl rfl rfl
theorem wp_wk_tryFrom_d78 : decode prog_11_method_8_code 78 = .ok (.aload_n 0, 1) := wt_op42 wb13m3_prog_11_method_8_code_c2 21 rfl rfl
theorem wp_wk_tryFrom_d79 : decode prog_11_method_8_code 79 = .ok (.aload 5, 2) := wt_op25 wb13m3_prog_11_method_8_code_c2 22 rfl rfl
theorem wp_wk_tryFrom_d81 : decode prog_11_method_8_code 81 = .ok (.iload_n 2, 1) := wt_op28 wb13m3_prog_11_method_8_code_c2 24 rfl rfl
theorem wp_wk_tryFrom_d82 : decode prog_11_method_8_code 82 = .ok (.iconst 1, 1) := wt_op4 wb13m3_prog_11_method_8_code_c2 25 rfl rfl
theorem wp_wk_tryFrom_d83 : decode prog_11_method_8_code 83 = .ok (.iadd, 1) := wt_op96 wb13m3_prog_11_method_8_code_c2 26 rfl rfl
theorem wp_wk_tryFrom_d84 : decode prog_11_method_8_code 84 = .ok (.iload_n 3, 1) := wt_op29 wb13m3_prog_11_method_8_code_c2 27 rfl rfl
theorem wp_wk_tryFrom_d85 : decode prog_11_method_8_code 85 = .ok (.aload_n 0, 1) := wt_op42 wb13m3_prog_11_method_8_code_c3 0 rfl rfl
theorem wp_wk_tryFrom_d86 : decode prog_11_method_8_code 86 = .ok (.getfield 19, 3) := wt_op180 wb13m3_prog_11_method_8_code_c3 1 rfl rfl rfl
theorem wp_wk_tryFrom_d89 : decode prog_11_method_8_code 89 = .ok (.getfield 121, 3) := wt_op180 wb13m3_prog_11_method_8_code_c3 4 rfl rfl rfl
theorem wp_wk_tryFrom_d92 : decode prog_11_method_8_code 92 = .ok (.iload 6, 2) := wt_op21 wb13m3_prog_11_method_8_code_c3 7 rfl rfl
theorem wp_wk_tryFrom_d94 : decode prog_11_method_8_code 94 = .ok (.invokestatic 70, 3) := wt_op184 wb13m3_prog_11_method_8_code_c3 9 rfl rfl rfl
theorem wp_wk_tryFrom_d97 : decode prog_11_method_8_code 97 = .ok (.iadd, 1) := wt_op96 wb13m3_prog_11_method_8_code_c3 12 rfl rfl
theorem wp_wk_tryFrom_d98 : decode prog_11_method_8_code 98 = .ok (.iload 4, 2) := wt_op21 wb13m3_prog_11_method_8_code_c3 13 rfl rfl
theorem wp_wk_tryFrom_d100 : decode prog_11_method_8_code 100 = .ok (.iconst 1, 1) := wt_op4 wb13m3_prog_11_method_8_code_c3 15 rfl rfl
theorem wp_wk_tryFrom_d101 : decode prog_11_method_8_code 101 = .ok (.iload 6, 2) := wt_op21 wb13m3_prog_11_method_8_code_c3 16 rfl rfl
theorem wp_wk_tryFrom_d103 : decode prog_11_method_8_code 103 = .ok (.ishl, 1) := wt_op120 wb13m3_prog_11_method_8_code_c3 18 rfl rfl
theorem wp_wk_tryFrom_d104 : decode prog_11_method_8_code 104 = .ok (.ior, 1) := wt_op128 wb13m3_prog_11_method_8_code_c3 19 rfl rfl
theorem wp_wk_tryFrom_d105 : decode prog_11_method_8_code 105 = .ok (.invokestatic 60, 3) := wt_op184 wb13m3_prog_11_method_8_code_c3 20 rfl rfl rfl
theorem wp_wk_tryFrom_d108 : decode prog_11_method_8_code 108 = .ok (.return_, 1) := wt_op177 wb13m3_prog_11_method_8_code_c3 23 rfl rfl
noncomputable def wp_wk_tryFrom_B24 (n : Nat) (a1 : Nat) (R : Nat × Int32 × Int32 × Int32 × wt_St → Option (wt_St)) (x3 : Int32) (x4 : Int32) (σ : wt_St) : Option (wt_St) :=
  (wp_wk_keep n x3 x4 σ).bind fun q2 =>
  some q2
set_option maxRecDepth 100000 in
set_option maxHeartbeats 4000000 in
theorem wp_wk_tryFrom_B24_ok {dR : Nat}  {a1 : Nat} {x3 : Int32} {x4 : Int32} {X : wt_X} {n : Nat} {res : wt_St} (hE : wt_Ok X prog_11_method_8_code 7 "WornType$Weeks" (dR + 1) 0) (hR : wt_Rt X none none res) (hD : ∀ i, i < 108 → wt_dom (wt_xw X) i) (hA_a1 : wt_LAY[a1]? = some (0, wt_ln a1, [])) (hd_a1 : wt_dom (wt_xw X) a1) {R : Nat × Int32 × Int32 × Int32 × wt_St → Option (wt_St)} (hL0 : 5 ≤ dR) (hRec : ∀ (s : Nat × Int32 × Int32 × Int32 × wt_St) (q : wt_St), wt_LAY[s.1]? = some (0, wt_ln s.1, []) → wt_dom (wt_xw X) s.1 → R s = some q → wt_Ctr (wt_xl X) (wt_xw X) wt_y_wk_tryFrom prog_11_method_8_code 7 none dR [.ref (wt_ad (wt_xw X) 86), .ref (wt_ad (wt_xw X) s.1), .int s.2.1, .int s.2.2.1, .int s.2.2.2.1] s.2.2.2.2 none q) {σ : wt_St} (h : wp_wk_tryFrom_B24 n a1 R x3 x4 σ = some res) : wt_V X 0 σ 24 [some (.ref (wt_ad (wt_xw X) 86)), some (.ref (wt_ad (wt_xw X) a1)), none, some (.int x3), some (.int x4), none, none] [] := by
  unfold wp_wk_tryFrom_B24 at h
  refine wt_aload_n hE wp_wk_tryFrom_d24 rfl ?_
  refine wt_iload_n hE wp_wk_tryFrom_d25 rfl ?_
  refine wt_iload hE wp_wk_tryFrom_d26 rfl ?_
  obtain ⟨q2, hq2, h⟩ := wt_bi h
  refine wt_callVv hE [.int x3, .int x4] wt_lm_wk_109 wt_ya_wk_keep (wp_wk_keep_ok hD hq2) (by omega) (hD 86 (Nat.le_of_ble_eq_true rfl)) wt_L86 rfl rfl rfl (Nat.le_of_ble_eq_true rfl) (Nat.zero_le _) wp_wk_tryFrom_d28 ?_
  cases h
  exact wt_vret hE hR wp_wk_tryFrom_d31
noncomputable def wp_wk_tryFrom_b (n : Nat) (a1 : Nat) (R : Nat × Int32 × Int32 × Int32 × wt_St → Option (wt_St)) (x2 : Int32) (x3 : Int32) (x4 : Int32) (σ : wt_St) : Option (wt_St) :=
  if x2 < 0 then
    wp_wk_tryFrom_B24 n a1 R x3 x4 σ
  else
    if (wt_gf σ 39 8) ≤ x2 then
      wp_wk_tryFrom_B24 n a1 R x3 x4 σ
    else
      if x2 < (10 : Int32) then
        (R (a1, (x2 + (1 : Int32)), x3, x4, σ)).bind fun q5 =>
        if x2 < 0 ∨ 10 ≤ Int32.toNatClampNeg x2 then none else
        (wp_ap_copyRow n a1 (88 + Int32.toNatClampNeg x2) q5).bind fun q7 =>
        (wp_ap_look n 99 x2 q7).bind fun q8 =>
        (wp_wk_printOne n (88 + Int32.toNatClampNeg x2) q8.1 q8.2).bind fun q9 =>
        if q9.1 = 0 then
          some q9.2
        else
          (wp_ap_look n 47 q8.1 q9.2).bind fun q11 =>
          (R ((88 + Int32.toNatClampNeg x2), (x2 + (1 : Int32)), (x3 + q11.1), (x4 ||| ((1 : Int32) <<< (q8.1 &&& 31))), q11.2)).bind fun q12 =>
          some q12
      else
        wp_wk_tryFrom_B24 n a1 R x3 x4 σ
set_option maxRecDepth 100000 in
set_option maxHeartbeats 4000000 in
theorem wp_wk_tryFrom_b_ok {l : Launch} {w : wt_E} {n : Nat} {a1 : Nat} {x2 : Int32} {x3 : Int32} {x4 : Int32} (hD : ∀ i, i < 108 → wt_dom w i) (hA_a1 : wt_LAY[a1]? = some (0, wt_ln a1, [])) (hd_a1 : wt_dom w a1) {R : Nat × Int32 × Int32 × Int32 × wt_St → Option (wt_St)} {dR : Nat} (hL0 : 5 ≤ dR) (hRec : ∀ (s : Nat × Int32 × Int32 × Int32 × wt_St) (q : wt_St), wt_LAY[s.1]? = some (0, wt_ln s.1, []) → wt_dom w s.1 → R s = some q → wt_Ctr l w wt_y_wk_tryFrom prog_11_method_8_code 7 none dR [.ref (wt_ad w 86), .ref (wt_ad w s.1), .int s.2.1, .int s.2.2.1, .int s.2.2.2.1] s.2.2.2.2 none q) {σ : wt_St} {q : wt_St} (h : wp_wk_tryFrom_b n a1 R x2 x3 x4 σ = some q) : wt_Ctr l w wt_y_wk_tryFrom prog_11_method_8_code 7 none (dR + 1) [.ref (wt_ad w 86), .ref (wt_ad w a1), .int x2, .int x3, .int x4] σ none q := by
  refine wt_ctr wt_pl_wk_tryFrom rfl (Nat.le_of_ble_eq_true rfl) [some (.ref (wt_ad w 86)), some (.ref (wt_ad w a1)), some (.int x2), some (.int x3), some (.int x4), none, none] rfl ?_
  intro X hXl hXw hE hR
  subst hXl
  subst hXw
  have hE : wt_Ok X prog_11_method_8_code 7 "WornType$Weeks" (dR + 1) 0 := hE
  unfold wp_wk_tryFrom_b at h
  refine wt_iload_n hE wp_wk_tryFrom_d0 rfl ?_
  refine wt_if_lt hE 24 wp_wk_tryFrom_d1 rfl (fun c1 => ?_) (fun c1 => ?_)
  · have h := wt_ip c1 h
    refine wt_wk [true, true, false, true, true, true, true] rfl ?_
    exact wp_wk_tryFrom_B24_ok hE hR hD hA_a1 hd_a1 hL0 hRec h
  · have h := wt_in c1 h
    refine wt_iload_n hE wp_wk_tryFrom_d4 rfl ?_
    refine wt_aload_n hE wp_wk_tryFrom_d5 rfl ?_
    refine wt_getr hE (r := 39) wt_lf_wk_19 (hD 86 (Nat.le_of_ble_eq_true rfl)) wt_L86 rfl wp_wk_tryFrom_d6 ?_
    refine wt_geti hE wt_lf_wk_67 (hD 39 (Nat.le_of_ble_eq_true rfl)) wt_L39 rfl wp_wk_tryFrom_d9 ?_
    refine wt_icmp_ge hE 24 wp_wk_tryFrom_d12 rfl (fun c3 => ?_) (fun c3 => ?_)
    · have h := wt_ip c3 h
      refine wt_wk [true, true, false, true, true, true, true] rfl ?_
      exact wp_wk_tryFrom_B24_ok hE hR hD hA_a1 hd_a1 hL0 hRec h
    · have h := wt_in c3 h
      refine wt_iload_n hE wp_wk_tryFrom_d15 rfl ?_
      refine wt_aload_n hE wp_wk_tryFrom_d16 rfl ?_
      refine wt_getr hE (r := 87) wt_lf_wk_29 (hD 86 (Nat.le_of_ble_eq_true rfl)) wt_L86 rfl wp_wk_tryFrom_d17 ?_
      refine wt_alen1 hE (10 : Int32) (hD 87 (Nat.le_of_ble_eq_true rfl)) wt_L87 rfl wp_wk_tryFrom_d20 ?_
      refine wt_icmp_lt hE 32 wp_wk_tryFrom_d21 rfl (fun c4 => ?_) (fun c4 => ?_)
      · have h := wt_ip c4 h
        refine wt_aload_n hE wp_wk_tryFrom_d32 rfl ?_
        refine wt_aload_n hE wp_wk_tryFrom_d33 rfl ?_
        refine wt_iload_n hE wp_wk_tryFrom_d34 rfl ?_
        refine wt_iconst hE (1 : Int32) wp_wk_tryFrom_d35 wt_ci_1 ?_
        refine wt_iadd hE wp_wk_tryFrom_d36 ?_
        refine wt_iload_n hE wp_wk_tryFrom_d37 rfl ?_
        refine wt_iload hE wp_wk_tryFrom_d38 rfl ?_
        obtain ⟨q5, hq5, h⟩ := wt_bi h
        refine wt_callSv hE [.ref (wt_ad (wt_xw X) 86), .ref (wt_ad (wt_xw X) a1), .int (x2 + (1 : Int32)), .int x3, .int x4] wt_lm_wk_60 wt_ya_wk_tryFrom (hRec _ _ (wt_lnE hA_a1) hd_a1 hq5) (by omega) rfl rfl (Nat.le_of_ble_eq_true rfl) (Nat.zero_le _) wp_wk_tryFrom_d40 ?_
        refine wt_aload_n hE wp_wk_tryFrom_d43 rfl ?_
        refine wt_getr hE (r := 87) wt_lf_wk_29 (hD 86 (Nat.le_of_ble_eq_true rfl)) wt_L86 rfl wp_wk_tryFrom_d44 ?_
        refine wt_iload_n hE wp_wk_tryFrom_d47 rfl ?_
        obtain ⟨g6, h⟩ := wt_gd h
        have lg6 := wt_lt g6
        refine wt_aald1 hE (hD 87 (Nat.le_of_ble_eq_true rfl)) wt_L87 g6 wp_wk_tryFrom_d48 ?_
        refine wt_astore hE [some (.ref (wt_ad (wt_xw X) 86)), some (.ref (wt_ad (wt_xw X) a1)), some (.int x2), some (.int x3), some (.int x4), some (.ref (wt_ad (wt_xw X) ((88 + Int32.toNatClampNeg x2)))), none] wp_wk_tryFrom_d49 (Nat.le_of_ble_eq_true rfl) rfl ?_
        refine wt_aload_n hE wp_wk_tryFrom_d51 rfl ?_
        refine wt_aload hE wp_wk_tryFrom_d52 rfl ?_
        obtain ⟨q7, hq7, h⟩ := wt_bi h
        refine wt_callSv hE [.ref (wt_ad (wt_xw X) a1), .ref (wt_ad (wt_xw X) ((88 + Int32.toNatClampNeg x2)))] wt_lm_wk_113 wt_ya_ap_copyRow (wp_ap_copyRow_ok (wt_lnE hA_a1) hd_a1 (wt_lnE (wt_G88 _ lg6)) (hD _ (by omega)) hq7) (by omega) rfl rfl (Nat.le_of_ble_eq_true rfl) (Nat.zero_le _) wp_wk_tryFrom_d54 ?_
        refine wt_aload_n hE wp_wk_tryFrom_d57 rfl ?_
        refine wt_getr hE (r := 99) wt_lf_wk_36 (hD 86 (Nat.le_of_ble_eq_true rfl)) wt_L86 rfl wp_wk_tryFrom_d58 ?_
        refine wt_iload_n hE wp_wk_tryFrom_d61 rfl ?_
        obtain ⟨q8, hq8, h⟩ := wt_bi h
        refine wt_callSi hE [.ref (wt_ad (wt_xw X) 99), .int x2] wt_lm_wk_70 wt_ya_ap_look (wp_ap_look_ok (wt_lnE wt_L99) (hD 99 (Nat.le_of_ble_eq_true rfl)) hq8) (by omega) rfl rfl (Nat.le_of_ble_eq_true rfl) (Nat.zero_le _) wp_wk_tryFrom_d62 (fun hbq8 => ?_)
        refine wt_istore hE [some (.ref (wt_ad (wt_xw X) 86)), some (.ref (wt_ad (wt_xw X) a1)), some (.int x2), some (.int x3), some (.int x4), some (.ref (wt_ad (wt_xw X) ((88 + Int32.toNatClampNeg x2)))), some (.int q8.1)] wp_wk_tryFrom_d65 (Nat.le_of_ble_eq_true rfl) rfl ?_
        refine wt_aload_n hE wp_wk_tryFrom_d67 rfl ?_
        refine wt_iload hE wp_wk_tryFrom_d68 rfl ?_
        refine wt_aload hE wp_wk_tryFrom_d70 rfl ?_
        obtain ⟨q9, hq9, h⟩ := wt_bi h
        refine wt_callVi hE [.int q8.1, .ref (wt_ad (wt_xw X) ((88 + Int32.toNatClampNeg x2)))] wt_lm_wk_117 wt_ya_wk_printOne (wp_wk_printOne_ok hD (wt_lnE (wt_G88 _ lg6)) (hD _ (by omega)) hq9) (by omega) (hD 86 (Nat.le_of_ble_eq_true rfl)) wt_L86 rfl rfl rfl (Nat.le_of_ble_eq_true rfl) (Nat.zero_le _) wp_wk_tryFrom_d72 (fun hbq9 => ?_)
        refine wt_if_eq hE 108 wp_wk_tryFrom_d75 rfl (fun c10 => ?_) (fun c10 => ?_)
        · have h := wt_ip c10 h
          cases h
          exact wt_vret hE hR wp_wk_tryFrom_d108
        · have h := wt_in c10 h
          refine wt_aload_n hE wp_wk_tryFrom_d78 rfl ?_
          refine wt_aload hE wp_wk_tryFrom_d79 rfl ?_
          refine wt_iload_n hE wp_wk_tryFrom_d81 rfl ?_
          refine wt_iconst hE (1 : Int32) wp_wk_tryFrom_d82 wt_ci_1 ?_
          refine wt_iadd hE wp_wk_tryFrom_d83 ?_
          refine wt_iload_n hE wp_wk_tryFrom_d84 rfl ?_
          refine wt_aload_n hE wp_wk_tryFrom_d85 rfl ?_
          refine wt_getr hE (r := 39) wt_lf_wk_19 (hD 86 (Nat.le_of_ble_eq_true rfl)) wt_L86 rfl wp_wk_tryFrom_d86 ?_
          refine wt_getr hE (r := 47) wt_lf_wk_121 (hD 39 (Nat.le_of_ble_eq_true rfl)) wt_L39 rfl wp_wk_tryFrom_d89 ?_
          refine wt_iload hE wp_wk_tryFrom_d92 rfl ?_
          obtain ⟨q11, hq11, h⟩ := wt_bi h
          refine wt_callSi hE [.ref (wt_ad (wt_xw X) 47), .int q8.1] wt_lm_wk_70 wt_ya_ap_look (wp_ap_look_ok (wt_lnE wt_L47) (hD 47 (Nat.le_of_ble_eq_true rfl)) hq11) (by omega) rfl rfl (Nat.le_of_ble_eq_true rfl) (Nat.zero_le _) wp_wk_tryFrom_d94 (fun hbq11 => ?_)
          refine wt_iadd hE wp_wk_tryFrom_d97 ?_
          refine wt_iload hE wp_wk_tryFrom_d98 rfl ?_
          refine wt_iconst hE (1 : Int32) wp_wk_tryFrom_d100 wt_ci_1 ?_
          refine wt_iload hE wp_wk_tryFrom_d101 rfl ?_
          refine wt_ishl hE wp_wk_tryFrom_d103 ?_
          refine wt_ior hE wp_wk_tryFrom_d104 ?_
          obtain ⟨q12, hq12, h⟩ := wt_bi h
          refine wt_callSv hE [.ref (wt_ad (wt_xw X) 86), .ref (wt_ad (wt_xw X) ((88 + Int32.toNatClampNeg x2))), .int (x2 + (1 : Int32)), .int (x3 + q11.1), .int (x4 ||| ((1 : Int32) <<< (q8.1 &&& 31)))] wt_lm_wk_60 wt_ya_wk_tryFrom (hRec _ _ (wt_lnE (wt_G88 _ lg6)) (hD _ (by omega)) hq12) (by omega) rfl rfl (Nat.le_of_ble_eq_true rfl) (Nat.zero_le _) wp_wk_tryFrom_d105 ?_
          cases h
          exact wt_vret hE hR wp_wk_tryFrom_d108
      · have h := wt_in c4 h
        refine wt_wk [true, true, false, true, true, true, true] rfl ?_
        exact wp_wk_tryFrom_B24_ok hE hR hD hA_a1 hd_a1 hL0 hRec h
noncomputable def wp_wk_tryFrom (n : Nat) (a1 : Nat) (x2 : Int32) (x3 : Int32) (x4 : Int32) (σ : wt_St) : Option (wt_St) := wt_it (fun R s => wp_wk_tryFrom_b n s.1 R s.2.1 s.2.2.1 s.2.2.2.1 s.2.2.2.2) 16 (a1, x2, x3, x4, σ)
set_option maxRecDepth 100000 in
theorem wp_wk_tryFrom_it {l : Launch} {w : wt_E} {n : Nat} (hD : ∀ i, i < 108 → wt_dom w i) : ∀ (k : Nat) (s : Nat × Int32 × Int32 × Int32 × wt_St) (q : wt_St), wt_LAY[s.1]? = some (0, wt_ln s.1, []) → wt_dom w s.1 → wt_it (fun R s => wp_wk_tryFrom_b n s.1 R s.2.1 s.2.2.1 s.2.2.2.1 s.2.2.2.2) k s = some q → wt_Ctr l w wt_y_wk_tryFrom prog_11_method_8_code 7 none (5 + k) [.ref (wt_ad w 86), .ref (wt_ad w s.1), .int s.2.1, .int s.2.2.1, .int s.2.2.2.1] s.2.2.2.2 none q := by
  intro k
  induction k with
  | zero => intro s q hA0 hd0 h; cases h
  | succ k ih =>
    intro s q hA0 hd0 h
    exact wp_wk_tryFrom_b_ok hD hA0 hd0 (R := wt_it (fun R s => wp_wk_tryFrom_b n s.1 R s.2.1 s.2.2.1 s.2.2.2.1 s.2.2.2.2) k) (dR := 5 + k) (by omega) ih h
set_option maxRecDepth 100000 in
theorem wp_wk_tryFrom_ok {l : Launch} {w : wt_E} {n : Nat} {a1 : Nat} {x2 : Int32} {x3 : Int32} {x4 : Int32} (hD : ∀ i, i < 108 → wt_dom w i) (hA_a1 : wt_LAY[a1]? = some (0, wt_ln a1, [])) (hd_a1 : wt_dom w a1) {σ : wt_St} {q : wt_St} (h : wp_wk_tryFrom n a1 x2 x3 x4 σ = some q) : wt_Ctr l w wt_y_wk_tryFrom prog_11_method_8_code 7 none 21 [.ref (wt_ad w 86), .ref (wt_ad w a1), .int x2, .int x3, .int x4] σ none q := by
  unfold wp_wk_tryFrom at h
  exact wp_wk_tryFrom_it hD 16 (a1, x2, x3, x4, σ) q hA_a1 hd_a1 h
def wb13m3_prog_11_method_2_code_r1 : List (List Nat) := [3, 3, 184, 0, 60, 177] :: []
def wb13m3_prog_11_method_2_code_r0 : List (List Nat) := [42, 182, 0, 42, 42, 3, 181, 0, 45, 42, 3, 181, 0, 49, 42, 3, 181, 0, 52, 42, 42, 180, 0, 19, 180, 0, 55, 3] :: wb13m3_prog_11_method_2_code_r1
set_option maxRecDepth 100000 in
theorem wb13m3_prog_11_method_2_code_c0 : wt_cs prog_11_method_2_code 0 wb13m3_prog_11_method_2_code_r0 := wt_cs_of (by decide +kernel)
theorem wb13m3_prog_11_method_2_code_c1 : wt_cs prog_11_method_2_code 28 wb13m3_prog_11_method_2_code_r1 := wt_cs_tl (m := 28) wb13m3_prog_11_method_2_code_c0 rfl rfl
theorem wp_wk_findMost_d0 : decode prog_11_method_2_code 0 = .ok (.aload_n 0, 1) := wt_op42 wb13m3_prog_11_method_2_code_c0 0 rfl rfl
theorem wp_wk_findMost_d1 : decode prog_11_method_2_code 1 = .ok (.invokevirtual 42, 3) := wt_op182 wb13m3_prog_11_method_2_code_c0 1 rfl rfl rfl
theorem wp_wk_findMost_d4 : decode prog_11_method_2_code 4 = .ok (.aload_n 0, 1) := wt_op42 wb13m3_prog_11_method_2_code_c0 4 rfl rfl
theorem wp_wk_findMost_d5 : decode prog_11_method_2_code 5 = .ok (.iconst 0, 1) := wt_op3 wb13m3_prog_11_method_2_code_c0 5 rfl rfl
theorem wp_wk_findMost_d6 : decode prog_11_method_2_code 6 = .ok (.putfield 45, 3) := wt_op181 wb13m3_prog_11_method_2_code_c0 6 rfl rfl rfl
theorem wp_wk_findMost_d9 : decode prog_11_method_2_code 9 = .ok (.aload_n 0, 1) := wt_op42 wb13m3_prog_11_method_2_code_c0 9 rfl rfl
theorem wp_wk_findMost_d10 : decode prog_11_method_2_code 10 = .ok (.iconst 0, 1) := wt_op3 wb13m3_prog_11_method_2_code_c0 10 rfl rfl
theorem wp_wk_findMost_d11 : decode prog_11_method_2_code 11 = .ok (.putfield 49, 3) := wt_op181 wb13m3_prog_11_method_2_code_c0 11 rfl rfl rfl
theorem wp_wk_findMost_d14 : decode prog_11_method_2_code 14 = .ok (.aload_n 0, 1) := wt_op42 wb13m3_prog_11_method_2_code_c0 14 rfl rfl
theorem wp_wk_findMost_d15 : decode prog_11_method_2_code 15 = .ok (.iconst 0, 1) := wt_op3 wb13m3_prog_11_method_2_code_c0 15 rfl rfl
theorem wp_wk_findMost_d16 : decode prog_11_method_2_code 16 = .ok (.putfield 52, 3) := wt_op181 wb13m3_prog_11_method_2_code_c0 16 rfl rfl rfl
theorem wp_wk_findMost_d19 : decode prog_11_method_2_code 19 = .ok (.aload_n 0, 1) := wt_op42 wb13m3_prog_11_method_2_code_c0 19 rfl rfl
theorem wp_wk_findMost_d20 : decode prog_11_method_2_code 20 = .ok (.aload_n 0, 1) := wt_op42 wb13m3_prog_11_method_2_code_c0 20 rfl rfl
theorem wp_wk_findMost_d21 : decode prog_11_method_2_code 21 = .ok (.getfield 19, 3) := wt_op180 wb13m3_prog_11_method_2_code_c0 21 rfl rfl rfl
theorem wp_wk_findMost_d24 : decode prog_11_method_2_code 24 = .ok (.getfield 55, 3) := wt_op180 wb13m3_prog_11_method_2_code_c0 24 rfl rfl rfl
theorem wp_wk_findMost_d27 : decode prog_11_method_2_code 27 = .ok (.iconst 0, 1) := wt_op3 wb13m3_prog_11_method_2_code_c0 27 rfl rfl
theorem wp_wk_findMost_d28 : decode prog_11_method_2_code 28 = .ok (.iconst 0, 1) := wt_op3 wb13m3_prog_11_method_2_code_c1 0 rfl rfl
theorem wp_wk_findMost_d29 : decode prog_11_method_2_code 29 = .ok (.iconst 0, 1) := wt_op3 wb13m3_prog_11_method_2_code_c1 1 rfl rfl
theorem wp_wk_findMost_d30 : decode prog_11_method_2_code 30 = .ok (.invokestatic 60, 3) := wt_op184 wb13m3_prog_11_method_2_code_c1 2 rfl rfl rfl
theorem wp_wk_findMost_d33 : decode prog_11_method_2_code 33 = .ok (.return_, 1) := wt_op177 wb13m3_prog_11_method_2_code_c1 5 rfl rfl
noncomputable def wp_wk_findMost (n : Nat) (σ : wt_St) : Option (wt_St) :=
  (wp_wk_sortByWeek n σ).bind fun q1 =>
  (wp_wk_tryFrom n 40 (0 : Int32) (0 : Int32) (0 : Int32) (wt_sf (wt_sf (wt_sf q1 86 8 (0 : Int32)) 86 9 (0 : Int32)) 86 10 (0 : Int32))).bind fun q2 =>
  some q2
set_option maxRecDepth 100000 in
set_option maxHeartbeats 4000000 in
theorem wp_wk_findMost_ok {l : Launch} {w : wt_E} {n : Nat} (hD : ∀ i, i < 108 → wt_dom w i) {σ : wt_St} {q : wt_St} (h : wp_wk_findMost n σ = some q) : wt_Ctr l w wt_y_wk_findMost prog_11_method_2_code 1 none 22 [.ref (wt_ad w 86)] σ none q := by
  refine wt_ctr wt_pl_wk_findMost rfl (Nat.le_of_ble_eq_true rfl) [some (.ref (wt_ad w 86))] rfl ?_
  intro X hXl hXw hE hR
  subst hXl
  subst hXw
  have hE : wt_Ok X prog_11_method_2_code 1 "WornType$Weeks" 22 0 := hE
  unfold wp_wk_findMost at h
  refine wt_aload_n hE wp_wk_findMost_d0 rfl ?_
  obtain ⟨q1, hq1, h⟩ := wt_bi h
  refine wt_callVv hE [] wt_lm_wk_42 wt_ya_wk_sortByWeek (wp_wk_sortByWeek_ok hD hq1) (by omega) (hD 86 (Nat.le_of_ble_eq_true rfl)) wt_L86 rfl rfl rfl (Nat.le_of_ble_eq_true rfl) (Nat.zero_le _) wp_wk_findMost_d1 ?_
  refine wt_aload_n hE wp_wk_findMost_d4 rfl ?_
  refine wt_iconst hE (0 : Int32) wp_wk_findMost_d5 wt_ci_0 ?_
  refine wt_puti hE wt_lf_wk_45 (hD 86 (Nat.le_of_ble_eq_true rfl)) wt_L86 rfl (fun q hq => by cases hq; rfl) wp_wk_findMost_d6 ?_
  refine wt_aload_n hE wp_wk_findMost_d9 rfl ?_
  refine wt_iconst hE (0 : Int32) wp_wk_findMost_d10 wt_ci_0 ?_
  refine wt_puti hE wt_lf_wk_49 (hD 86 (Nat.le_of_ble_eq_true rfl)) wt_L86 rfl (fun q hq => by cases hq; rfl) wp_wk_findMost_d11 ?_
  refine wt_aload_n hE wp_wk_findMost_d14 rfl ?_
  refine wt_iconst hE (0 : Int32) wp_wk_findMost_d15 wt_ci_0 ?_
  refine wt_puti hE wt_lf_wk_52 (hD 86 (Nat.le_of_ble_eq_true rfl)) wt_L86 rfl (fun q hq => by cases hq; rfl) wp_wk_findMost_d16 ?_
  refine wt_aload_n hE wp_wk_findMost_d19 rfl ?_
  refine wt_aload_n hE wp_wk_findMost_d20 rfl ?_
  refine wt_getr hE (r := 39) wt_lf_wk_19 (hD 86 (Nat.le_of_ble_eq_true rfl)) wt_L86 rfl wp_wk_findMost_d21 ?_
  refine wt_getr hE (r := 40) wt_lf_wk_55 (hD 39 (Nat.le_of_ble_eq_true rfl)) wt_L39 rfl wp_wk_findMost_d24 ?_
  refine wt_iconst hE (0 : Int32) wp_wk_findMost_d27 wt_ci_0 ?_
  refine wt_iconst hE (0 : Int32) wp_wk_findMost_d28 wt_ci_0 ?_
  refine wt_iconst hE (0 : Int32) wp_wk_findMost_d29 wt_ci_0 ?_
  obtain ⟨q2, hq2, h⟩ := wt_bi h
  refine wt_callSv hE [.ref (wt_ad (wt_xw X) 86), .ref (wt_ad (wt_xw X) 40), .int (0 : Int32), .int (0 : Int32), .int (0 : Int32)] wt_lm_wk_60 wt_ya_wk_tryFrom (wp_wk_tryFrom_ok hD (wt_lnE wt_L40) (hD 40 (Nat.le_of_ble_eq_true rfl)) hq2) (by omega) rfl rfl (Nat.le_of_ble_eq_true rfl) (Nat.zero_le _) wp_wk_findMost_d30 ?_
  cases h
  exact wt_vret hE hR wp_wk_findMost_d33
def wb13m3_prog_3_method_12_code_r0 : List (List Nat) := [42, 180, 0, 23, 180, 0, 60, 27, 184, 0, 46, 42, 180, 0, 9, 180, 0, 140, 162, 0, 7, 4, 167, 0, 4, 3, 172] :: []
set_option maxRecDepth 100000 in
theorem wb13m3_prog_3_method_12_code_c0 : wt_cs prog_3_method_12_code 0 wb13m3_prog_3_method_12_code_r0 := wt_cs_of (by decide +kernel)
theorem wp_pg_isFaint_d0 : decode prog_3_method_12_code 0 = .ok (.aload_n 0, 1) := wt_op42 wb13m3_prog_3_method_12_code_c0 0 rfl rfl
theorem wp_pg_isFaint_d1 : decode prog_3_method_12_code 1 = .ok (.getfield 23, 3) := wt_op180 wb13m3_prog_3_method_12_code_c0 1 rfl rfl rfl
theorem wp_pg_isFaint_d4 : decode prog_3_method_12_code 4 = .ok (.getfield 60, 3) := wt_op180 wb13m3_prog_3_method_12_code_c0 4 rfl rfl rfl
theorem wp_pg_isFaint_d7 : decode prog_3_method_12_code 7 = .ok (.iload_n 1, 1) := wt_op27 wb13m3_prog_3_method_12_code_c0 7 rfl rfl
theorem wp_pg_isFaint_d8 : decode prog_3_method_12_code 8 = .ok (.invokestatic 46, 3) := wt_op184 wb13m3_prog_3_method_12_code_c0 8 rfl rfl rfl
theorem wp_pg_isFaint_d11 : decode prog_3_method_12_code 11 = .ok (.aload_n 0, 1) := wt_op42 wb13m3_prog_3_method_12_code_c0 11 rfl rfl
theorem wp_pg_isFaint_d12 : decode prog_3_method_12_code 12 = .ok (.getfield 9, 3) := wt_op180 wb13m3_prog_3_method_12_code_c0 12 rfl rfl rfl
theorem wp_pg_isFaint_d15 : decode prog_3_method_12_code 15 = .ok (.getfield 140, 3) := wt_op180 wb13m3_prog_3_method_12_code_c0 15 rfl rfl rfl
theorem wp_pg_isFaint_d18 : decode prog_3_method_12_code 18 = .ok (.if_icmp .ge 7, 3) := wt_op162 wb13m3_prog_3_method_12_code_c0 18 rfl rfl rfl
theorem wp_pg_isFaint_d21 : decode prog_3_method_12_code 21 = .ok (.iconst 1, 1) := wt_op4 wb13m3_prog_3_method_12_code_c0 21 rfl rfl
theorem wp_pg_isFaint_d22 : decode prog_3_method_12_code 22 = .ok (.goto 4, 3) := wt_op167 wb13m3_prog_3_method_12_code_c0 22 rfl rfl rfl
theorem wp_pg_isFaint_d25 : decode prog_3_method_12_code 25 = .ok (.iconst 0, 1) := wt_op3 wb13m3_prog_3_method_12_code_c0 25 rfl rfl
theorem wp_pg_isFaint_d26 : decode prog_3_method_12_code 26 = .ok (.ireturn, 1) := wt_op172 wb13m3_prog_3_method_12_code_c0 26 rfl rfl
noncomputable def wp_pg_isFaint (n : Nat) (x1 : Int32) (σ : wt_St) : Option (Int32 × wt_St) :=
  (wp_ap_look n 40 x1 σ).bind fun q1 =>
  if (wt_gf q1.2 4 7) ≤ q1.1 then
    some ((0 : Int32), q1.2)
  else
    some ((1 : Int32), q1.2)
set_option maxRecDepth 100000 in
set_option maxHeartbeats 4000000 in
theorem wp_pg_isFaint_ok {l : Launch} {w : wt_E} {n : Nat} {x1 : Int32} (hD : ∀ i, i < 108 → wt_dom w i) {σ : wt_St} {q : Int32 × wt_St} (h : wp_pg_isFaint n x1 σ = some q) : wt_Ctr l w wt_y_pg_isFaint prog_3_method_12_code 2 (some .boolean) 1 [.ref (wt_ad w 77), .int x1] σ (some q.1) q.2 := by
  refine wt_ctr wt_pl_pg_isFaint rfl (Nat.le_of_ble_eq_true rfl) [some (.ref (wt_ad w 77)), some (.int x1)] rfl ?_
  intro X hXl hXw hE hR
  subst hXl
  subst hXw
  have hE : wt_Ok X prog_3_method_12_code 2 "WornType$Pages" 1 0 := hE
  unfold wp_pg_isFaint at h
  refine wt_aload_n hE wp_pg_isFaint_d0 rfl ?_
  refine wt_getr hE (r := 39) wt_lf_pg_23 (hD 77 (Nat.le_of_ble_eq_true rfl)) wt_L77 rfl wp_pg_isFaint_d1 ?_
  refine wt_getr hE (r := 40) wt_lf_pg_60 (hD 39 (Nat.le_of_ble_eq_true rfl)) wt_L39 rfl wp_pg_isFaint_d4 ?_
  refine wt_iload_n hE wp_pg_isFaint_d7 rfl ?_
  obtain ⟨q1, hq1, h⟩ := wt_bi h
  refine wt_callSi hE [.ref (wt_ad (wt_xw X) 40), .int x1] wt_lm_pg_46 wt_ya_ap_look (wp_ap_look_ok (wt_lnE wt_L40) (hD 40 (Nat.le_of_ble_eq_true rfl)) hq1) (by omega) rfl rfl (Nat.le_of_ble_eq_true rfl) (Nat.zero_le _) wp_pg_isFaint_d8 (fun hbq1 => ?_)
  refine wt_aload_n hE wp_pg_isFaint_d11 rfl ?_
  refine wt_getr hE (r := 4) wt_lf_pg_9 (hD 77 (Nat.le_of_ble_eq_true rfl)) wt_L77 rfl wp_pg_isFaint_d12 ?_
  refine wt_geti hE wt_lf_pg_140 (hD 4 (Nat.le_of_ble_eq_true rfl)) wt_L4 rfl wp_pg_isFaint_d15 ?_
  refine wt_icmp_ge hE 25 wp_pg_isFaint_d18 rfl (fun c2 => ?_) (fun c2 => ?_)
  · have h := wt_ip c2 h
    refine wt_iconst hE (0 : Int32) wp_pg_isFaint_d25 wt_ci_0 ?_
    cases h
    exact wt_zret hE (by decide) hR wp_pg_isFaint_d26
  · have h := wt_in c2 h
    refine wt_iconst hE (1 : Int32) wp_pg_isFaint_d21 wt_ci_1 ?_
    refine wt_goto hE 26 wp_pg_isFaint_d22 rfl ?_
    cases h
    exact wt_zret hE (by decide) hR wp_pg_isFaint_d26
def wb13m3_prog_3_method_7_code_r1 : List (List Nat) := [29, 182, 0, 91, 153, 0, 7, 4, 167, 0, 4, 3, 96, 61, 132, 3, 1, 167, 255, 215, 28, 172] :: []
def wb13m3_prog_3_method_7_code_r0 : List (List Nat) := [3, 61, 3, 62, 29, 17, 1, 56, 162, 0, 40, 28, 42, 180, 0, 23, 180, 0, 77, 29, 184, 0, 46, 27, 160, 0, 15, 42] :: wb13m3_prog_3_method_7_code_r1
set_option maxRecDepth 100000 in
theorem wb13m3_prog_3_method_7_code_c0 : wt_cs prog_3_method_7_code 0 wb13m3_prog_3_method_7_code_r0 := wt_cs_of (by decide +kernel)
theorem wb13m3_prog_3_method_7_code_c1 : wt_cs prog_3_method_7_code 28 wb13m3_prog_3_method_7_code_r1 := wt_cs_tl (m := 28) wb13m3_prog_3_method_7_code_c0 rfl rfl
theorem wp_pg_faintOn_d0 : decode prog_3_method_7_code 0 = .ok (.iconst 0, 1) := wt_op3 wb13m3_prog_3_method_7_code_c0 0 rfl rfl
theorem wp_pg_faintOn_d1 : decode prog_3_method_7_code 1 = .ok (.istore_n 2, 1) := wt_op61 wb13m3_prog_3_method_7_code_c0 1 rfl rfl
theorem wp_pg_faintOn_d2 : decode prog_3_method_7_code 2 = .ok (.iconst 0, 1) := wt_op3 wb13m3_prog_3_method_7_code_c0 2 rfl rfl
theorem wp_pg_faintOn_d3 : decode prog_3_method_7_code 3 = .ok (.istore_n 3, 1) := wt_op62 wb13m3_prog_3_method_7_code_c0 3 rfl rfl
theorem wp_pg_faintOn_d4 : decode prog_3_method_7_code 4 = .ok (.iload_n 3, 1) := wt_op29 wb13m3_prog_3_method_7_code_c0 4 rfl rfl
theorem wp_pg_faintOn_d5 : decode prog_3_method_7_code 5 = .ok (.sipush 312, 3) := wt_op17 wb13m3_prog_3_method_7_code_c0 5 rfl rfl rfl
theorem wp_pg_faintOn_d8 : decode prog_3_method_7_code 8 = .ok (.if_icmp .ge 40, 3) := wt_op162 wb13m3_prog_3_method_7_code_c0 8 rfl rfl rfl
theorem wp_pg_faintOn_d11 : decode prog_3_method_7_code 11 = .ok (.iload_n 2, 1) := wt_op28 wb13m3_prog_3_method_7_code_c0 11 rfl rfl
theorem wp_pg_faintOn_d12 : decode prog_3_method_7_code 12 = .ok (.aload_n 0, 1) := wt_op42 wb13m3_prog_3_method_7_code_c0 12 rfl rfl
theorem wp_pg_faintOn_d13 : decode prog_3_method_7_code 13 = .ok (.getfield 23, 3) := wt_op180 wb13m3_prog_3_method_7_code_c0 13 rfl rfl rfl
theorem wp_pg_faintOn_d16 : decode prog_3_method_7_code 16 = .ok (.getfield 77, 3) := wt_op180 wb13m3_prog_3_method_7_code_c0 16 rfl rfl rfl
theorem wp_pg_faintOn_d19 : decode prog_3_method_7_code 19 = .ok (.iload_n 3, 1) := wt_op29 wb13m3_prog_3_method_7_code_c0 19 rfl rfl
theorem wp_pg_faintOn_d20 : decode prog_3_method_7_code 20 = .ok (.invokestatic 46, 3) := wt_op184 wb13m3_prog_3_method_7_code_c0 20 rfl rfl rfl
theorem wp_pg_faintOn_d23 : decode prog_3_method_7_code 23 = .ok (.iload_n 1, 1) := wt_op27 wb13m3_prog_3_method_7_code_c0 23 rfl rfl
theorem wp_pg_faintOn_d24 : decode prog_3_method_7_code 24 = .ok (.if_icmp .ne 15, 3) := wt_op160 wb13m3_prog_3_method_7_code_c0 24 rfl rfl rfl
theorem wp_pg_faintOn_d27 : decode prog_3_method_7_code 27 = .ok (.aload_n 0, 1) := wt_op42 wb13m3_prog_3_method_7_code_c0 27 rfl rfl
theorem wp_pg_faintOn_d28 : decode prog_3_method_7_code 28 = .ok (.iload_n 3, 1) := wt_op29 wb13m3_prog_3_method_7_code_c1 0 rfl rfl
theorem wp_pg_faintOn_d29 : decode prog_3_method_7_code 29 = .ok (.invokevirtual 91, 3) := wt_op182 wb13m3_prog_3_method_7_code_c1 1 rfl rfl rfl
theorem wp_pg_faintOn_d32 : decode prog_3_method_7_code 32 = .ok (.ifCond .eq 7, 3) := wt_op153 wb13m3_prog_3_method_7_code_c1 4 rfl rfl rfl
theorem wp_pg_faintOn_d35 : decode prog_3_method_7_code 35 = .ok (.iconst 1, 1) := wt_op4 wb13m3_prog_3_method_7_code_c1 7 rfl rfl
theorem wp_pg_faintOn_d36 : decode prog_3_method_7_code 36 = .ok (.goto 4, 3) := wt_op167 wb13m3_prog_3_method_7_code_c1 8 rfl rfl rfl
theorem wp_pg_faintOn_d39 : decode prog_3_method_7_code 39 = .ok (.iconst 0, 1) := wt_op3 wb13m3_prog_3_method_7_code_c1 11 rfl rfl
theorem wp_pg_faintOn_d40 : decode prog_3_method_7_code 40 = .ok (.iadd, 1) := wt_op96 wb13m3_prog_3_method_7_code_c1 12 rfl rfl
theorem wp_pg_faintOn_d41 : decode prog_3_method_7_code 41 = .ok (.istore_n 2, 1) := wt_op61 wb13m3_prog_3_method_7_code_c1 13 rfl rfl
theorem wp_pg_faintOn_d42 : decode prog_3_method_7_code 42 = .ok (.iinc 3 1, 3) := wt_op132 wb13m3_prog_3_method_7_code_c1 14 rfl rfl rfl
theorem wp_pg_faintOn_d45 : decode prog_3_method_7_code 45 = .ok (.goto (-41), 3) := wt_op167 wb13m3_prog_3_method_7_code_c1 17 rfl rfl rfl
theorem wp_pg_faintOn_d48 : decode prog_3_method_7_code 48 = .ok (.iload_n 2, 1) := wt_op28 wb13m3_prog_3_method_7_code_c1 20 rfl rfl
theorem wp_pg_faintOn_d49 : decode prog_3_method_7_code 49 = .ok (.ireturn, 1) := wt_op172 wb13m3_prog_3_method_7_code_c1 21 rfl rfl
noncomputable def wp_pg_faintOn_B40 (n : Nat) (x1 : Int32) (x3 : Int32) (K4 : Int32 × Int32 × wt_St → Option (Int32 × wt_St)) (y0 : Int32) (y1 : Int32) (σ : wt_St) : Option (Int32 × wt_St) :=
  K4 ((y0 + y1), (x3 + (1 : Int32)), σ)
set_option maxRecDepth 100000 in
set_option maxHeartbeats 4000000 in
theorem wp_pg_faintOn_B40_ok  {x1 : Int32} {x3 : Int32} {X : wt_X} {n : Nat} {res : Int32 × wt_St} (hE : wt_Ok X prog_3_method_7_code 4 "WornType$Pages" 2 0) (hR : wt_Rt X (some .int) (some res.1) res.2) (hD : ∀ i, i < 108 → wt_dom (wt_xw X) i)  {K4 : Int32 × Int32 × wt_St → Option (Int32 × wt_St)} (hK4 : ∀ s : Int32 × Int32 × wt_St, K4 s = some res → wt_V X 0 s.2.2 4 [some (.ref (wt_ad (wt_xw X) 77)), some (.int x1), some (.int s.1), some (.int s.2.1)] []) {σ : wt_St} {y0 : Int32} {y1 : Int32} (h : wp_pg_faintOn_B40 n x1 x3 K4 y0 y1 σ = some res) : wt_V X 0 σ 40 [some (.ref (wt_ad (wt_xw X) 77)), some (.int x1), none, some (.int x3)] [.int y1, .int y0] := by
  unfold wp_pg_faintOn_B40 at h
  refine wt_iadd hE wp_pg_faintOn_d40 ?_
  refine wt_istore_n hE [some (.ref (wt_ad (wt_xw X) 77)), some (.int x1), some (.int (y0 + y1)), some (.int x3)] wp_pg_faintOn_d41 (by decide) rfl ?_
  refine wt_iinc hE (x3 + (1 : Int32)) [some (.ref (wt_ad (wt_xw X) 77)), some (.int x1), some (.int (y0 + y1)), some (.int (x3 + (1 : Int32)))] wp_pg_faintOn_d42 (by decide) rfl rfl rfl ?_
  refine wt_goto hE 4 wp_pg_faintOn_d45 rfl ?_
  exact hK4 ((y0 + y1), (x3 + (1 : Int32)), σ) h
noncomputable def wp_pg_faintOn_B39 (n : Nat) (x1 : Int32) (x3 : Int32) (K4 : Int32 × Int32 × wt_St → Option (Int32 × wt_St)) (y0 : Int32) (σ : wt_St) : Option (Int32 × wt_St) :=
  wp_pg_faintOn_B40 n x1 x3 K4 y0 (0 : Int32) σ
set_option maxRecDepth 100000 in
set_option maxHeartbeats 4000000 in
theorem wp_pg_faintOn_B39_ok  {x1 : Int32} {x3 : Int32} {X : wt_X} {n : Nat} {res : Int32 × wt_St} (hE : wt_Ok X prog_3_method_7_code 4 "WornType$Pages" 2 0) (hR : wt_Rt X (some .int) (some res.1) res.2) (hD : ∀ i, i < 108 → wt_dom (wt_xw X) i)  {K4 : Int32 × Int32 × wt_St → Option (Int32 × wt_St)} (hK4 : ∀ s : Int32 × Int32 × wt_St, K4 s = some res → wt_V X 0 s.2.2 4 [some (.ref (wt_ad (wt_xw X) 77)), some (.int x1), some (.int s.1), some (.int s.2.1)] []) {σ : wt_St} {y0 : Int32} (h : wp_pg_faintOn_B39 n x1 x3 K4 y0 σ = some res) : wt_V X 0 σ 39 [some (.ref (wt_ad (wt_xw X) 77)), some (.int x1), none, some (.int x3)] [.int y0] := by
  unfold wp_pg_faintOn_B39 at h
  refine wt_iconst hE (0 : Int32) wp_pg_faintOn_d39 wt_ci_0 ?_
  exact wp_pg_faintOn_B40_ok hE hR hD hK4 h
noncomputable def wp_pg_faintOn_B4 (n : Nat) (x1 : Int32) (K4 : Int32 × Int32 × wt_St → Option (Int32 × wt_St)) (s : Int32 × Int32 × wt_St) : Option (Int32 × wt_St) :=
  if (312 : Int32) ≤ s.2.1 then
    some (s.1, s.2.2)
  else
    (wp_ap_look n 41 s.2.1 s.2.2).bind fun q2 =>
    if q2.1 = x1 then
      (wp_pg_isFaint n s.2.1 q2.2).bind fun q4 =>
      if q4.1 = 0 then
        wp_pg_faintOn_B39 n x1 s.2.1 K4 s.1 q4.2
      else
        wp_pg_faintOn_B40 n x1 s.2.1 K4 s.1 (1 : Int32) q4.2
    else
      wp_pg_faintOn_B39 n x1 s.2.1 K4 s.1 q2.2
set_option maxRecDepth 100000 in
set_option maxHeartbeats 4000000 in
theorem wp_pg_faintOn_B4_ok  {x1 : Int32} {X : wt_X} {n : Nat} {res : Int32 × wt_St} (hE : wt_Ok X prog_3_method_7_code 4 "WornType$Pages" 2 0) (hR : wt_Rt X (some .int) (some res.1) res.2) (hD : ∀ i, i < 108 → wt_dom (wt_xw X) i)  {K4 : Int32 × Int32 × wt_St → Option (Int32 × wt_St)} (hK4 : ∀ s : Int32 × Int32 × wt_St, K4 s = some res → wt_V X 0 s.2.2 4 [some (.ref (wt_ad (wt_xw X) 77)), some (.int x1), some (.int s.1), some (.int s.2.1)] []) {s : Int32 × Int32 × wt_St} (h : wp_pg_faintOn_B4 n x1 K4 s = some res) : wt_V X 0 s.2.2 4 [some (.ref (wt_ad (wt_xw X) 77)), some (.int x1), some (.int s.1), some (.int s.2.1)] [] := by
  unfold wp_pg_faintOn_B4 at h
  refine wt_iload_n hE wp_pg_faintOn_d4 rfl ?_
  refine wt_sipush hE (312 : Int32) wp_pg_faintOn_d5 wt_cs_312 ?_
  refine wt_icmp_ge hE 48 wp_pg_faintOn_d8 rfl (fun c1 => ?_) (fun c1 => ?_)
  · have h := wt_ip c1 h
    refine wt_iload_n hE wp_pg_faintOn_d48 rfl ?_
    cases h
    exact wt_iret hE hR wp_pg_faintOn_d49
  · have h := wt_in c1 h
    refine wt_iload_n hE wp_pg_faintOn_d11 rfl ?_
    refine wt_aload_n hE wp_pg_faintOn_d12 rfl ?_
    refine wt_getr hE (r := 39) wt_lf_pg_23 (hD 77 (Nat.le_of_ble_eq_true rfl)) wt_L77 rfl wp_pg_faintOn_d13 ?_
    refine wt_getr hE (r := 41) wt_lf_pg_77 (hD 39 (Nat.le_of_ble_eq_true rfl)) wt_L39 rfl wp_pg_faintOn_d16 ?_
    refine wt_iload_n hE wp_pg_faintOn_d19 rfl ?_
    obtain ⟨q2, hq2, h⟩ := wt_bi h
    refine wt_callSi hE [.ref (wt_ad (wt_xw X) 41), .int s.2.1] wt_lm_pg_46 wt_ya_ap_look (wp_ap_look_ok (wt_lnE wt_L41) (hD 41 (Nat.le_of_ble_eq_true rfl)) hq2) (by omega) rfl rfl (Nat.le_of_ble_eq_true rfl) (Nat.zero_le _) wp_pg_faintOn_d20 (fun hbq2 => ?_)
    refine wt_iload_n hE wp_pg_faintOn_d23 rfl ?_
    refine wt_icmp_ne hE 39 wp_pg_faintOn_d24 rfl (fun c3 => ?_) (fun c3 => ?_)
    · have h := wt_in c3 h
      refine wt_wk [true, true, false, true] rfl ?_
      exact wp_pg_faintOn_B39_ok hE hR hD hK4 h
    · have h := wt_ip c3 h
      refine wt_aload_n hE wp_pg_faintOn_d27 rfl ?_
      refine wt_iload_n hE wp_pg_faintOn_d28 rfl ?_
      obtain ⟨q4, hq4, h⟩ := wt_bi h
      refine wt_callVi hE [.int s.2.1] wt_lm_pg_91 wt_ya_pg_isFaint (wp_pg_isFaint_ok hD hq4) (by omega) (hD 77 (Nat.le_of_ble_eq_true rfl)) wt_L77 rfl rfl rfl (Nat.le_of_ble_eq_true rfl) (Nat.zero_le _) wp_pg_faintOn_d29 (fun hbq4 => ?_)
      refine wt_if_eq hE 39 wp_pg_faintOn_d32 rfl (fun c5 => ?_) (fun c5 => ?_)
      · have h := wt_ip c5 h
        refine wt_wk [true, true, false, true] rfl ?_
        exact wp_pg_faintOn_B39_ok hE hR hD hK4 h
      · have h := wt_in c5 h
        refine wt_iconst hE (1 : Int32) wp_pg_faintOn_d35 wt_ci_1 ?_
        refine wt_goto hE 40 wp_pg_faintOn_d36 rfl ?_
        refine wt_wk [true, true, false, true] rfl ?_
        exact wp_pg_faintOn_B40_ok hE hR hD hK4 h
noncomputable def wp_pg_faintOn (n : Nat) (x1 : Int32) (σ : wt_St) : Option (Int32 × wt_St) :=
  wt_it (wp_pg_faintOn_B4 n x1) n ((0 : Int32), (0 : Int32), σ)
set_option maxRecDepth 100000 in
set_option maxHeartbeats 4000000 in
theorem wp_pg_faintOn_ok {l : Launch} {w : wt_E} {n : Nat} {x1 : Int32} (hD : ∀ i, i < 108 → wt_dom w i) {σ : wt_St} {q : Int32 × wt_St} (h : wp_pg_faintOn n x1 σ = some q) : wt_Ctr l w wt_y_pg_faintOn prog_3_method_7_code 4 (some .int) 2 [.ref (wt_ad w 77), .int x1] σ (some q.1) q.2 := by
  refine wt_ctr wt_pl_pg_faintOn rfl (Nat.le_of_ble_eq_true rfl) [some (.ref (wt_ad w 77)), some (.int x1), none, none] rfl ?_
  intro X hXl hXw hE hR
  subst hXl
  subst hXw
  have hE : wt_Ok X prog_3_method_7_code 4 "WornType$Pages" 2 0 := hE
  unfold wp_pg_faintOn at h
  refine wt_iconst hE (0 : Int32) wp_pg_faintOn_d0 wt_ci_0 ?_
  refine wt_istore_n hE [some (.ref (wt_ad (wt_xw X) 77)), some (.int x1), some (.int (0 : Int32)), none] wp_pg_faintOn_d1 (by decide) rfl ?_
  refine wt_iconst hE (0 : Int32) wp_pg_faintOn_d2 wt_ci_0 ?_
  refine wt_istore_n hE [some (.ref (wt_ad (wt_xw X) 77)), some (.int x1), some (.int (0 : Int32)), some (.int (0 : Int32))] wp_pg_faintOn_d3 (by decide) rfl ?_
  exact wt_it_ind (fun z => wt_V X 0 z.2.2 4 [some (.ref (wt_ad (wt_xw X) 77)), some (.int x1), some (.int z.1), some (.int z.2.1)] []) (fun K hK z h => wp_pg_faintOn_B4_ok hE hR hD hK h) n ((0 : Int32), (0 : Int32), σ) h
def wb13m3_prog_3_method_8_code_r1 : List (List Nat) := [42, 180, 0, 23, 180, 0, 60, 29, 184, 0, 46, 184, 0, 95, 61, 132, 3, 1, 167, 255, 215, 28, 172] :: []
def wb13m3_prog_3_method_8_code_r0 : List (List Nat) := [18, 94, 61, 3, 62, 29, 17, 1, 56, 162, 0, 40, 42, 180, 0, 23, 180, 0, 77, 29, 184, 0, 46, 27, 160, 0, 19, 28] :: wb13m3_prog_3_method_8_code_r1
set_option maxRecDepth 100000 in
theorem wb13m3_prog_3_method_8_code_c0 : wt_cs prog_3_method_8_code 0 wb13m3_prog_3_method_8_code_r0 := wt_cs_of (by decide +kernel)
theorem wb13m3_prog_3_method_8_code_c1 : wt_cs prog_3_method_8_code 28 wb13m3_prog_3_method_8_code_r1 := wt_cs_tl (m := 28) wb13m3_prog_3_method_8_code_c0 rfl rfl
theorem wp_pg_leastLeftOn_d0 : decode prog_3_method_8_code 0 = .ok (.ldc 94, 2) := wt_op18 wb13m3_prog_3_method_8_code_c0 0 rfl rfl
theorem wp_pg_leastLeftOn_d2 : decode prog_3_method_8_code 2 = .ok (.istore_n 2, 1) := wt_op61 wb13m3_prog_3_method_8_code_c0 2 rfl rfl
theorem wp_pg_leastLeftOn_d3 : decode prog_3_method_8_code 3 = .ok (.iconst 0, 1) := wt_op3 wb13m3_prog_3_method_8_code_c0 3 rfl rfl
theorem wp_pg_leastLeftOn_d4 : decode prog_3_method_8_code 4 = .ok (.istore_n 3, 1) := wt_op62 wb13m3_prog_3_method_8_code_c0 4 rfl rfl
theorem wp_pg_leastLeftOn_d5 : decode prog_3_method_8_code 5 = .ok (.iload_n 3, 1) := wt_op29 wb13m3_prog_3_method_8_code_c0 5 rfl rfl
theorem wp_pg_leastLeftOn_d6 : decode prog_3_method_8_code 6 = .ok (.sipush 312, 3) := wt_op17 wb13m3_prog_3_method_8_code_c0 6 rfl rfl rfl
theorem wp_pg_leastLeftOn_d9 : decode prog_3_method_8_code 9 = .ok (.if_icmp .ge 40, 3) := wt_op162 wb13m3_prog_3_method_8_code_c0 9 rfl rfl rfl
theorem wp_pg_leastLeftOn_d12 : decode prog_3_method_8_code 12 = .ok (.aload_n 0, 1) := wt_op42 wb13m3_prog_3_method_8_code_c0 12 rfl rfl
theorem wp_pg_leastLeftOn_d13 : decode prog_3_method_8_code 13 = .ok (.getfield 23, 3) := wt_op180 wb13m3_prog_3_method_8_code_c0 13 rfl rfl rfl
theorem wp_pg_leastLeftOn_d16 : decode prog_3_method_8_code 16 = .ok (.getfield 77, 3) := wt_op180 wb13m3_prog_3_method_8_code_c0 16 rfl rfl rfl
theorem wp_pg_leastLeftOn_d19 : decode prog_3_method_8_code 19 = .ok (.iload_n 3, 1) := wt_op29 wb13m3_prog_3_method_8_code_c0 19 rfl rfl
theorem wp_pg_leastLeftOn_d20 : decode prog_3_method_8_code 20 = .ok (.invokestatic 46, 3) := wt_op184 wb13m3_prog_3_method_8_code_c0 20 rfl rfl rfl
theorem wp_pg_leastLeftOn_d23 : decode prog_3_method_8_code 23 = .ok (.iload_n 1, 1) := wt_op27 wb13m3_prog_3_method_8_code_c0 23 rfl rfl
theorem wp_pg_leastLeftOn_d24 : decode prog_3_method_8_code 24 = .ok (.if_icmp .ne 19, 3) := wt_op160 wb13m3_prog_3_method_8_code_c0 24 rfl rfl rfl
theorem wp_pg_leastLeftOn_d27 : decode prog_3_method_8_code 27 = .ok (.iload_n 2, 1) := wt_op28 wb13m3_prog_3_method_8_code_c0 27 rfl rfl
theorem wp_pg_leastLeftOn_d28 : decode prog_3_method_8_code 28 = .ok (.aload_n 0, 1) := wt_op42 wb13m3_prog_3_method_8_code_c1 0 rfl rfl
theorem wp_pg_leastLeftOn_d29 : decode prog_3_method_8_code 29 = .ok (.getfield 23, 3) := wt_op180 wb13m3_prog_3_method_8_code_c1 1 rfl rfl rfl
theorem wp_pg_leastLeftOn_d32 : decode prog_3_method_8_code 32 = .ok (.getfield 60, 3) := wt_op180 wb13m3_prog_3_method_8_code_c1 4 rfl rfl rfl
theorem wp_pg_leastLeftOn_d35 : decode prog_3_method_8_code 35 = .ok (.iload_n 3, 1) := wt_op29 wb13m3_prog_3_method_8_code_c1 7 rfl rfl
theorem wp_pg_leastLeftOn_d36 : decode prog_3_method_8_code 36 = .ok (.invokestatic 46, 3) := wt_op184 wb13m3_prog_3_method_8_code_c1 8 rfl rfl rfl
theorem wp_pg_leastLeftOn_d39 : decode prog_3_method_8_code 39 = .ok (.invokestatic 95, 3) := wt_op184 wb13m3_prog_3_method_8_code_c1 11 rfl rfl rfl
theorem wp_pg_leastLeftOn_d42 : decode prog_3_method_8_code 42 = .ok (.istore_n 2, 1) := wt_op61 wb13m3_prog_3_method_8_code_c1 14 rfl rfl
theorem wp_pg_leastLeftOn_d43 : decode prog_3_method_8_code 43 = .ok (.iinc 3 1, 3) := wt_op132 wb13m3_prog_3_method_8_code_c1 15 rfl rfl rfl
theorem wp_pg_leastLeftOn_d46 : decode prog_3_method_8_code 46 = .ok (.goto (-41), 3) := wt_op167 wb13m3_prog_3_method_8_code_c1 18 rfl rfl rfl
theorem wp_pg_leastLeftOn_d49 : decode prog_3_method_8_code 49 = .ok (.iload_n 2, 1) := wt_op28 wb13m3_prog_3_method_8_code_c1 21 rfl rfl
theorem wp_pg_leastLeftOn_d50 : decode prog_3_method_8_code 50 = .ok (.ireturn, 1) := wt_op172 wb13m3_prog_3_method_8_code_c1 22 rfl rfl
noncomputable def wp_pg_leastLeftOn_B43 (n : Nat) (x1 : Int32) (x2 : Int32) (x3 : Int32) (K5 : Int32 × Int32 × wt_St → Option (Int32 × wt_St)) (σ : wt_St) : Option (Int32 × wt_St) :=
  K5 (x2, (x3 + (1 : Int32)), σ)
set_option maxRecDepth 100000 in
set_option maxHeartbeats 4000000 in
theorem wp_pg_leastLeftOn_B43_ok  {x1 : Int32} {x2 : Int32} {x3 : Int32} {X : wt_X} {n : Nat} {res : Int32 × wt_St} (hE : wt_Ok X prog_3_method_8_code 4 "WornType$Pages" 1 0) (hR : wt_Rt X (some .int) (some res.1) res.2) (hD : ∀ i, i < 108 → wt_dom (wt_xw X) i)  {K5 : Int32 × Int32 × wt_St → Option (Int32 × wt_St)} (hK5 : ∀ s : Int32 × Int32 × wt_St, K5 s = some res → wt_V X 0 s.2.2 5 [some (.ref (wt_ad (wt_xw X) 77)), some (.int x1), some (.int s.1), some (.int s.2.1)] []) {σ : wt_St} (h : wp_pg_leastLeftOn_B43 n x1 x2 x3 K5 σ = some res) : wt_V X 0 σ 43 [some (.ref (wt_ad (wt_xw X) 77)), some (.int x1), some (.int x2), some (.int x3)] [] := by
  unfold wp_pg_leastLeftOn_B43 at h
  refine wt_iinc hE (x3 + (1 : Int32)) [some (.ref (wt_ad (wt_xw X) 77)), some (.int x1), some (.int x2), some (.int (x3 + (1 : Int32)))] wp_pg_leastLeftOn_d43 (by decide) rfl rfl rfl ?_
  refine wt_goto hE 5 wp_pg_leastLeftOn_d46 rfl ?_
  exact hK5 (x2, (x3 + (1 : Int32)), σ) h
noncomputable def wp_pg_leastLeftOn_B5 (n : Nat) (x1 : Int32) (K5 : Int32 × Int32 × wt_St → Option (Int32 × wt_St)) (s : Int32 × Int32 × wt_St) : Option (Int32 × wt_St) :=
  if (312 : Int32) ≤ s.2.1 then
    some (s.1, s.2.2)
  else
    (wp_ap_look n 41 s.2.1 s.2.2).bind fun q2 =>
    if q2.1 = x1 then
      (wp_ap_look n 40 s.2.1 q2.2).bind fun q4 =>
      wp_pg_leastLeftOn_B43 n x1 (if q4.1 < s.1 then q4.1 else s.1) s.2.1 K5 q4.2
    else
      wp_pg_leastLeftOn_B43 n x1 s.1 s.2.1 K5 q2.2
set_option maxRecDepth 100000 in
set_option maxHeartbeats 4000000 in
theorem wp_pg_leastLeftOn_B5_ok  {x1 : Int32} {X : wt_X} {n : Nat} {res : Int32 × wt_St} (hE : wt_Ok X prog_3_method_8_code 4 "WornType$Pages" 1 0) (hR : wt_Rt X (some .int) (some res.1) res.2) (hD : ∀ i, i < 108 → wt_dom (wt_xw X) i)  {K5 : Int32 × Int32 × wt_St → Option (Int32 × wt_St)} (hK5 : ∀ s : Int32 × Int32 × wt_St, K5 s = some res → wt_V X 0 s.2.2 5 [some (.ref (wt_ad (wt_xw X) 77)), some (.int x1), some (.int s.1), some (.int s.2.1)] []) {s : Int32 × Int32 × wt_St} (h : wp_pg_leastLeftOn_B5 n x1 K5 s = some res) : wt_V X 0 s.2.2 5 [some (.ref (wt_ad (wt_xw X) 77)), some (.int x1), some (.int s.1), some (.int s.2.1)] [] := by
  unfold wp_pg_leastLeftOn_B5 at h
  refine wt_iload_n hE wp_pg_leastLeftOn_d5 rfl ?_
  refine wt_sipush hE (312 : Int32) wp_pg_leastLeftOn_d6 wt_cs_312 ?_
  refine wt_icmp_ge hE 49 wp_pg_leastLeftOn_d9 rfl (fun c1 => ?_) (fun c1 => ?_)
  · have h := wt_ip c1 h
    refine wt_iload_n hE wp_pg_leastLeftOn_d49 rfl ?_
    cases h
    exact wt_iret hE hR wp_pg_leastLeftOn_d50
  · have h := wt_in c1 h
    refine wt_aload_n hE wp_pg_leastLeftOn_d12 rfl ?_
    refine wt_getr hE (r := 39) wt_lf_pg_23 (hD 77 (Nat.le_of_ble_eq_true rfl)) wt_L77 rfl wp_pg_leastLeftOn_d13 ?_
    refine wt_getr hE (r := 41) wt_lf_pg_77 (hD 39 (Nat.le_of_ble_eq_true rfl)) wt_L39 rfl wp_pg_leastLeftOn_d16 ?_
    refine wt_iload_n hE wp_pg_leastLeftOn_d19 rfl ?_
    obtain ⟨q2, hq2, h⟩ := wt_bi h
    refine wt_callSi hE [.ref (wt_ad (wt_xw X) 41), .int s.2.1] wt_lm_pg_46 wt_ya_ap_look (wp_ap_look_ok (wt_lnE wt_L41) (hD 41 (Nat.le_of_ble_eq_true rfl)) hq2) (by omega) rfl rfl (Nat.le_of_ble_eq_true rfl) (Nat.zero_le _) wp_pg_leastLeftOn_d20 (fun hbq2 => ?_)
    refine wt_iload_n hE wp_pg_leastLeftOn_d23 rfl ?_
    refine wt_icmp_ne hE 43 wp_pg_leastLeftOn_d24 rfl (fun c3 => ?_) (fun c3 => ?_)
    · have h := wt_in c3 h
      exact wp_pg_leastLeftOn_B43_ok hE hR hD hK5 h
    · have h := wt_ip c3 h
      refine wt_iload_n hE wp_pg_leastLeftOn_d27 rfl ?_
      refine wt_aload_n hE wp_pg_leastLeftOn_d28 rfl ?_
      refine wt_getr hE (r := 39) wt_lf_pg_23 (hD 77 (Nat.le_of_ble_eq_true rfl)) wt_L77 rfl wp_pg_leastLeftOn_d29 ?_
      refine wt_getr hE (r := 40) wt_lf_pg_60 (hD 39 (Nat.le_of_ble_eq_true rfl)) wt_L39 rfl wp_pg_leastLeftOn_d32 ?_
      refine wt_iload_n hE wp_pg_leastLeftOn_d35 rfl ?_
      obtain ⟨q4, hq4, h⟩ := wt_bi h
      refine wt_callSi hE [.ref (wt_ad (wt_xw X) 40), .int s.2.1] wt_lm_pg_46 wt_ya_ap_look (wp_ap_look_ok (wt_lnE wt_L40) (hD 40 (Nat.le_of_ble_eq_true rfl)) hq4) (by omega) rfl rfl (Nat.le_of_ble_eq_true rfl) (Nat.zero_le _) wp_pg_leastLeftOn_d36 (fun hbq4 => ?_)
      refine wt_min hE wt_lm_pg_95 wt_ms_min wt_mi wt_mc_min (by omega) (Nat.zero_le _) (Nat.le_of_ble_eq_true rfl) wp_pg_leastLeftOn_d39 ?_
      refine wt_istore_n hE [some (.ref (wt_ad (wt_xw X) 77)), some (.int x1), some (.int (if q4.1 < s.1 then q4.1 else s.1)), some (.int s.2.1)] wp_pg_leastLeftOn_d42 (by decide) rfl ?_
      exact wp_pg_leastLeftOn_B43_ok hE hR hD hK5 h
noncomputable def wp_pg_leastLeftOn (n : Nat) (x1 : Int32) (σ : wt_St) : Option (Int32 × wt_St) :=
  wt_it (wp_pg_leastLeftOn_B5 n x1) n ((1000000 : Int32), (0 : Int32), σ)
set_option maxRecDepth 100000 in
set_option maxHeartbeats 4000000 in
theorem wp_pg_leastLeftOn_ok {l : Launch} {w : wt_E} {n : Nat} {x1 : Int32} (hD : ∀ i, i < 108 → wt_dom w i) {σ : wt_St} {q : Int32 × wt_St} (h : wp_pg_leastLeftOn n x1 σ = some q) : wt_Ctr l w wt_y_pg_leastLeftOn prog_3_method_8_code 4 (some .int) 1 [.ref (wt_ad w 77), .int x1] σ (some q.1) q.2 := by
  refine wt_ctr wt_pl_pg_leastLeftOn rfl (Nat.le_of_ble_eq_true rfl) [some (.ref (wt_ad w 77)), some (.int x1), none, none] rfl ?_
  intro X hXl hXw hE hR
  subst hXl
  subst hXw
  have hE : wt_Ok X prog_3_method_8_code 4 "WornType$Pages" 1 0 := hE
  unfold wp_pg_leastLeftOn at h
  refine wt_ldc hE (1000000 : Int32) wt_lc_pg_94 wp_pg_leastLeftOn_d0 ?_
  refine wt_istore_n hE [some (.ref (wt_ad (wt_xw X) 77)), some (.int x1), some (.int (1000000 : Int32)), none] wp_pg_leastLeftOn_d2 (by decide) rfl ?_
  refine wt_iconst hE (0 : Int32) wp_pg_leastLeftOn_d3 wt_ci_0 ?_
  refine wt_istore_n hE [some (.ref (wt_ad (wt_xw X) 77)), some (.int x1), some (.int (1000000 : Int32)), some (.int (0 : Int32))] wp_pg_leastLeftOn_d4 (by decide) rfl ?_
  exact wt_it_ind (fun z => wt_V X 0 z.2.2 5 [some (.ref (wt_ad (wt_xw X) 77)), some (.int x1), some (.int z.1), some (.int z.2.1)] []) (fun K hK z h => wp_pg_leastLeftOn_B5_ok hE hR hD hK h) n ((1000000 : Int32), (0 : Int32), σ) h
def wb13m3_prog_3_method_11_code_r3 : List (List Nat) := [167, 0, 4, 28, 172, 132, 5, 1, 167, 255, 177, 28, 172] :: []
def wb13m3_prog_3_method_11_code_r2 : List (List Nat) := [180, 0, 84, 21, 6, 184, 0, 46, 29, 160, 0, 25, 42, 21, 6, 182, 0, 91, 153, 0, 14, 21, 4, 2, 159, 0, 8, 21, 4] :: wb13m3_prog_3_method_11_code_r3
def wb13m3_prog_3_method_11_code_r1 : List (List Nat) := [28, 16, 12, 104, 21, 5, 96, 54, 6, 42, 180, 0, 23, 180, 0, 77, 21, 6, 184, 0, 46, 27, 160, 0, 41, 42, 180, 0, 23] :: wb13m3_prog_3_method_11_code_r2
def wb13m3_prog_3_method_11_code_r0 : List (List Nat) := [42, 180, 0, 9, 180, 0, 132, 28, 184, 0, 46, 54, 4, 3, 54, 5, 21, 5, 42, 180, 0, 27, 28, 182, 0, 137, 162, 0, 72] :: wb13m3_prog_3_method_11_code_r1
set_option maxRecDepth 100000 in
theorem wb13m3_prog_3_method_11_code_c0 : wt_cs prog_3_method_11_code 0 wb13m3_prog_3_method_11_code_r0 := wt_cs_of (by decide +kernel)
theorem wb13m3_prog_3_method_11_code_c1 : wt_cs prog_3_method_11_code 29 wb13m3_prog_3_method_11_code_r1 := wt_cs_tl (m := 29) wb13m3_prog_3_method_11_code_c0 rfl rfl
theorem wb13m3_prog_3_method_11_code_c2 : wt_cs prog_3_method_11_code 58 wb13m3_prog_3_method_11_code_r2 := wt_cs_tl (m := 29) wb13m3_prog_3_method_11_code_c1 rfl rfl
theorem wb13m3_prog_3_method_11_code_c3 : wt_cs prog_3_method_11_code 87 wb13m3_prog_3_method_11_code_r3 := wt_cs_tl (m := 29) wb13m3_prog_3_method_11_code_c2 rfl rfl
theorem wp_pg_readLetter_d0 : decode prog_3_method_11_code 0 = .ok (.aload_n 0, 1) := wt_op42 wb13m3_prog_3_method_11_code_c0 0 rfl rfl
theorem wp_pg_readLetter_d1 : decode prog_3_method_11_code 1 = .ok (.getfield 9, 3) := wt_op180 wb13m3_prog_3_method_11_code_c0 1 rfl rfl rfl
theorem wp_pg_readLetter_d4 : decode prog_3_method_11_code 4 = .ok (.getfield 132, 3) := wt_op180 wb13m3_prog_3_method_11_code_c0 4 rfl rfl rfl
theorem wp_pg_readLetter_d7 : decode prog_3_method_11_code 7 = .ok (.iload_n 2, 1) := wt_op28 wb13m3_prog_3_method_11_code_c0 7 rfl rfl
theorem wp_pg_readLetter_d8 : decode prog_3_method_11_code 8 = .ok (.invokestatic 46, 3) := wt_op184 wb13m3_prog_3_method_11_code_c0 8 rfl rfl rfl
theorem wp_pg_readLetter_d11 : decode prog_3_method_11_code 11 = .ok (.istore 4, 2) := wt_op54 wb13m3_prog_3_method_11_code_c0 11 rfl rfl
theorem wp_pg_readLetter_d13 : decode prog_3_method_11_code 13 = .ok (.iconst 0, 1) := wt_op3 wb13m3_prog_3_method_11_code_c0 13 rfl rfl
theorem wp_pg_readLetter_d14 : decode prog_3_method_11_code 14 = .ok (.istore 5, 2) := wt_op54 wb13m3_prog_3_method_11_code_c0 14 rfl rfl
theorem wp_pg_readLetter_d16 : decode prog_3_method_11_code 16 = .ok (.iload 5, 2) := wt_op21 wb13m3_prog_3_method_11_code_c0 16 rfl rfl
theorem wp_pg_readLetter_d18 : decode prog_3_method_11_code 18 = .ok (.aload_n 0, 1) := wt_op42 wb13m3_prog_3_method_11_code_c0 18 rfl rfl
theorem wp_pg_readLetter_d19 : decode prog_3_method_11_code 19 = .ok (.getfield 27, 3) := wt_op180 wb13m3_prog_3_method_11_code_c0 19 rfl rfl rfl
theorem wp_pg_readLetter_d22 : decode prog_3_method_11_code 22 = .ok (.iload_n 2, 1) := wt_op28 wb13m3_prog_3_method_11_code_c0 22 rfl rfl
theorem wp_pg_readLetter_d23 : decode prog_3_method_11_code 23 = .ok (.invokevirtual 137, 3) := wt_op182 wb13m3_prog_3_method_11_code_c0 23 rfl rfl rfl
theorem wp_pg_readLetter_d26 : decode prog_3_method_11_code 26 = .ok (.if_icmp .ge 72, 3) := wt_op162 wb13m3_prog_3_method_11_code_c0 26 rfl rfl rfl
theorem wp_pg_readLetter_d29 : decode prog_3_method_11_code 29 = .ok (.iload_n 2, 1) := wt_op28 wb13m3_prog_3_method_11_code_c1 0 rfl rfl
theorem wp_pg_readLetter_d30 : decode prog_3_method_11_code 30 = .ok (.bipush 12, 2) := wt_op16 wb13m3_prog_3_method_11_code_c1 1 rfl rfl rfl
theorem wp_pg_readLetter_d32 : decode prog_3_method_11_code 32 = .ok (.imul, 1) := wt_op104 wb13m3_prog_3_method_11_code_c1 3 rfl rfl
theorem wp_pg_readLetter_d33 : decode prog_3_method_11_code 33 = .ok (.iload 5, 2) := wt_op21 wb13m3_prog_3_method_11_code_c1 4 rfl rfl
theorem wp_pg_readLetter_d35 : decode prog_3_method_11_code 35 = .ok (.iadd, 1) := wt_op96 wb13m3_prog_3_method_11_code_c1 6 rfl rfl
theorem wp_pg_readLetter_d36 : decode prog_3_method_11_code 36 = .ok (.istore 6, 2) := wt_op54 wb13m3_prog_3_method_11_code_c1 7 rfl rfl
theorem wp_pg_readLetter_d38 : decode prog_3_method_11_code 38 = .ok (.aload_n 0, 1) := wt_op42 wb13m3_prog_3_method_11_code_c1 9 rfl rfl
theorem wp_pg_readLetter_d39 : decode prog_3_method_11_code 39 = .ok (.getfield 23, 3) := wt_op180 wb13m3_prog_3_method_11_code_c1 10 rfl rfl rfl
theorem wp_pg_readLetter_d42 : decode prog_3_method_11_code 42 = .ok (.getfield 77, 3) := wt_op180 wb13m3_prog_3_method_11_code_c1 13 rfl rfl rfl
theorem wp_pg_readLetter_d45 : decode prog_3_method_11_code 45 = .ok (.iload 6, 2) := wt_op21 wb13m3_prog_3_method_11_code_c1 16 rfl rfl
theorem wp_pg_readLetter_d47 : decode prog_3_method_11_code 47 = .ok (.invokestatic 46, 3) := wt_op184 wb13m3_prog_3_method_11_code_c1 18 rfl rfl rfl
theorem wp_pg_readLetter_d50 : decode prog_3_method_11_code 50 = .ok (.iload_n 1, 1) := wt_op27 wb13m3_prog_3_method_11_code_c1 21 rfl rfl
theorem wp_pg_readLetter_d51 : decode prog_3_method_11_code 51 = .ok (.if_icmp .ne 41, 3) := wt_op160 wb13m3_prog_3_method_11_code_c1 22 rfl rfl rfl
theorem wp_pg_readLetter_d54 : decode prog_3_method_11_code 54 = .ok (.aload_n 0, 1) := wt_op42 wb13m3_prog_3_method_11_code_c1 25 rfl rfl
theorem wp_pg_readLetter_d55 : decode prog_3_method_11_code 55 = .ok (.getfield 23, 3) := wt_op180 wb13m3_prog_3_method_11_code_c1 26 rfl rfl rfl
theorem wp_pg_readLetter_d58 : decode prog_3_method_11_code 58 = .ok (.getfield 84, 3) := wt_op180 wb13m3_prog_3_method_11_code_c2 0 rfl rfl rfl
theorem wp_pg_readLetter_d61 : decode prog_3_method_11_code 61 = .ok (.iload 6, 2) := wt_op21 wb13m3_prog_3_method_11_code_c2 3 rfl rfl
theorem wp_pg_readLetter_d63 : decode prog_3_method_11_code 63 = .ok (.invokestatic 46, 3) := wt_op184 wb13m3_prog_3_method_11_code_c2 5 rfl rfl rfl
theorem wp_pg_readLetter_d66 : decode prog_3_method_11_code 66 = .ok (.iload_n 3, 1) := wt_op29 wb13m3_prog_3_method_11_code_c2 8 rfl rfl
theorem wp_pg_readLetter_d67 : decode prog_3_method_11_code 67 = .ok (.if_icmp .ne 25, 3) := wt_op160 wb13m3_prog_3_method_11_code_c2 9 rfl rfl rfl
theorem wp_pg_readLetter_d70 : decode prog_3_method_11_code 70 = .ok (.aload_n 0, 1) := wt_op42 wb13m3_prog_3_method_11_code_c2 12 rfl rfl
theorem wp_pg_readLetter_d71 : decode prog_3_method_11_code 71 = .ok (.iload 6, 2) := wt_op21 wb13m3_prog_3_method_11_code_c2 13 rfl rfl
theorem wp_pg_readLetter_d73 : decode prog_3_method_11_code 73 = .ok (.invokevirtual 91, 3) := wt_op182 wb13m3_prog_3_method_11_code_c2 15 rfl rfl rfl
theorem wp_pg_readLetter_d76 : decode prog_3_method_11_code 76 = .ok (.ifCond .eq 14, 3) := wt_op153 wb13m3_prog_3_method_11_code_c2 18 rfl rfl rfl
theorem wp_pg_readLetter_d79 : decode prog_3_method_11_code 79 = .ok (.iload 4, 2) := wt_op21 wb13m3_prog_3_method_11_code_c2 21 rfl rfl
theorem wp_pg_readLetter_d81 : decode prog_3_method_11_code 81 = .ok (.iconst (-1), 1) := wt_op2 wb13m3_prog_3_method_11_code_c2 23 rfl rfl
theorem wp_pg_readLetter_d82 : decode prog_3_method_11_code 82 = .ok (.if_icmp .eq 8, 3) := wt_op159 wb13m3_prog_3_method_11_code_c2 24 rfl rfl rfl
theorem wp_pg_readLetter_d85 : decode prog_3_method_11_code 85 = .ok (.iload 4, 2) := wt_op21 wb13m3_prog_3_method_11_code_c2 27 rfl rfl
theorem wp_pg_readLetter_d87 : decode prog_3_method_11_code 87 = .ok (.goto 4, 3) := wt_op167 wb13m3_prog_3_method_11_code_c3 0 rfl rfl rfl
theorem wp_pg_readLetter_d90 : decode prog_3_method_11_code 90 = .ok (.iload_n 2, 1) := wt_op28 wb13m3_prog_3_method_11_code_c3 3 rfl rfl
theorem wp_pg_readLetter_d91 : decode prog_3_method_11_code 91 = .ok (.ireturn, 1) := wt_op172 wb13m3_prog_3_method_11_code_c3 4 rfl rfl
theorem wp_pg_readLetter_d92 : decode prog_3_method_11_code 92 = .ok (.iinc 5 1, 3) := wt_op132 wb13m3_prog_3_method_11_code_c3 5 rfl rfl rfl
theorem wp_pg_readLetter_d95 : decode prog_3_method_11_code 95 = .ok (.goto (-79), 3) := wt_op167 wb13m3_prog_3_method_11_code_c3 8 rfl rfl rfl
theorem wp_pg_readLetter_d98 : decode prog_3_method_11_code 98 = .ok (.iload_n 2, 1) := wt_op28 wb13m3_prog_3_method_11_code_c3 11 rfl rfl
theorem wp_pg_readLetter_d99 : decode prog_3_method_11_code 99 = .ok (.ireturn, 1) := wt_op172 wb13m3_prog_3_method_11_code_c3 12 rfl rfl
noncomputable def wp_pg_readLetter_B92 (n : Nat) (x1 : Int32) (x2 : Int32) (x3 : Int32) (x4 : Int32) (x5 : Int32) (K16 : Int32 × wt_St → Option (Int32 × wt_St)) (σ : wt_St) : Option (Int32 × wt_St) :=
  K16 ((x5 + (1 : Int32)), σ)
set_option maxRecDepth 100000 in
set_option maxHeartbeats 4000000 in
theorem wp_pg_readLetter_B92_ok  {x1 : Int32} {x2 : Int32} {x3 : Int32} {x4 : Int32} {x5 : Int32} {X : wt_X} {n : Nat} {res : Int32 × wt_St} (hE : wt_Ok X prog_3_method_11_code 7 "WornType$Pages" 2 0) (hR : wt_Rt X (some .int) (some res.1) res.2) (hD : ∀ i, i < 108 → wt_dom (wt_xw X) i)  {K16 : Int32 × wt_St → Option (Int32 × wt_St)} (hK16 : ∀ s : Int32 × wt_St, K16 s = some res → wt_V X 0 s.2 16 [some (.ref (wt_ad (wt_xw X) 77)), some (.int x1), some (.int x2), some (.int x3), some (.int x4), some (.int s.1), none] []) {σ : wt_St} (h : wp_pg_readLetter_B92 n x1 x2 x3 x4 x5 K16 σ = some res) : wt_V X 0 σ 92 [some (.ref (wt_ad (wt_xw X) 77)), some (.int x1), some (.int x2), some (.int x3), some (.int x4), some (.int x5), none] [] := by
  unfold wp_pg_readLetter_B92 at h
  refine wt_iinc hE (x5 + (1 : Int32)) [some (.ref (wt_ad (wt_xw X) 77)), some (.int x1), some (.int x2), some (.int x3), some (.int x4), some (.int (x5 + (1 : Int32))), none] wp_pg_readLetter_d92 (by decide) rfl rfl rfl ?_
  refine wt_goto hE 16 wp_pg_readLetter_d95 rfl ?_
  exact hK16 ((x5 + (1 : Int32)), σ) h
noncomputable def wp_pg_readLetter_B16 (n : Nat) (x1 : Int32) (x2 : Int32) (x3 : Int32) (x4 : Int32) (K16 : Int32 × wt_St → Option (Int32 × wt_St)) (s : Int32 × wt_St) : Option (Int32 × wt_St) :=
  (wp_sk_pieces n x2 s.2).bind fun q2 =>
  if q2.1 ≤ s.1 then
    some (x2, q2.2)
  else
    (wp_ap_look n 41 ((x2 * (12 : Int32)) + s.1) q2.2).bind fun q4 =>
    if q4.1 = x1 then
      (wp_ap_look n 42 ((x2 * (12 : Int32)) + s.1) q4.2).bind fun q6 =>
      if q6.1 = x3 then
        (wp_pg_isFaint n ((x2 * (12 : Int32)) + s.1) q6.2).bind fun q8 =>
        if q8.1 = 0 then
          some (x2, q8.2)
        else
          if x4 = (-1 : Int32) then
            some (x2, q8.2)
          else
            some (x4, q8.2)
      else
        wp_pg_readLetter_B92 n x1 x2 x3 x4 s.1 K16 q6.2
    else
      wp_pg_readLetter_B92 n x1 x2 x3 x4 s.1 K16 q4.2
set_option maxRecDepth 100000 in
set_option maxHeartbeats 4000000 in
theorem wp_pg_readLetter_B16_ok  {x1 : Int32} {x2 : Int32} {x3 : Int32} {x4 : Int32} {X : wt_X} {n : Nat} {res : Int32 × wt_St} (hE : wt_Ok X prog_3_method_11_code 7 "WornType$Pages" 2 0) (hR : wt_Rt X (some .int) (some res.1) res.2) (hD : ∀ i, i < 108 → wt_dom (wt_xw X) i)  {K16 : Int32 × wt_St → Option (Int32 × wt_St)} (hK16 : ∀ s : Int32 × wt_St, K16 s = some res → wt_V X 0 s.2 16 [some (.ref (wt_ad (wt_xw X) 77)), some (.int x1), some (.int x2), some (.int x3), some (.int x4), some (.int s.1), none] []) {s : Int32 × wt_St} (h : wp_pg_readLetter_B16 n x1 x2 x3 x4 K16 s = some res) : wt_V X 0 s.2 16 [some (.ref (wt_ad (wt_xw X) 77)), some (.int x1), some (.int x2), some (.int x3), some (.int x4), some (.int s.1), none] [] := by
  unfold wp_pg_readLetter_B16 at h
  refine wt_iload hE wp_pg_readLetter_d16 rfl ?_
  refine wt_aload_n hE wp_pg_readLetter_d18 rfl ?_
  refine wt_getr hE (r := 76) wt_lf_pg_27 (hD 77 (Nat.le_of_ble_eq_true rfl)) wt_L77 rfl wp_pg_readLetter_d19 ?_
  refine wt_iload_n hE wp_pg_readLetter_d22 rfl ?_
  obtain ⟨q2, hq2, h⟩ := wt_bi h
  refine wt_callVi hE [.int x2] wt_lm_pg_137 wt_ya_sk_pieces (wp_sk_pieces_ok hD hq2) (by omega) (hD 76 (Nat.le_of_ble_eq_true rfl)) wt_L76 rfl rfl rfl (Nat.le_of_ble_eq_true rfl) (Nat.zero_le _) wp_pg_readLetter_d23 (fun hbq2 => ?_)
  refine wt_icmp_ge hE 98 wp_pg_readLetter_d26 rfl (fun c3 => ?_) (fun c3 => ?_)
  · have h := wt_ip c3 h
    refine wt_iload_n hE wp_pg_readLetter_d98 rfl ?_
    cases h
    exact wt_iret hE hR wp_pg_readLetter_d99
  · have h := wt_in c3 h
    refine wt_iload_n hE wp_pg_readLetter_d29 rfl ?_
    refine wt_bipush hE (12 : Int32) wp_pg_readLetter_d30 wt_cb_12 ?_
    refine wt_imul hE wp_pg_readLetter_d32 ?_
    refine wt_iload hE wp_pg_readLetter_d33 rfl ?_
    refine wt_iadd hE wp_pg_readLetter_d35 ?_
    refine wt_istore hE [some (.ref (wt_ad (wt_xw X) 77)), some (.int x1), some (.int x2), some (.int x3), some (.int x4), some (.int s.1), some (.int ((x2 * (12 : Int32)) + s.1))] wp_pg_readLetter_d36 (Nat.le_of_ble_eq_true rfl) rfl ?_
    refine wt_aload_n hE wp_pg_readLetter_d38 rfl ?_
    refine wt_getr hE (r := 39) wt_lf_pg_23 (hD 77 (Nat.le_of_ble_eq_true rfl)) wt_L77 rfl wp_pg_readLetter_d39 ?_
    refine wt_getr hE (r := 41) wt_lf_pg_77 (hD 39 (Nat.le_of_ble_eq_true rfl)) wt_L39 rfl wp_pg_readLetter_d42 ?_
    refine wt_iload hE wp_pg_readLetter_d45 rfl ?_
    obtain ⟨q4, hq4, h⟩ := wt_bi h
    refine wt_callSi hE [.ref (wt_ad (wt_xw X) 41), .int ((x2 * (12 : Int32)) + s.1)] wt_lm_pg_46 wt_ya_ap_look (wp_ap_look_ok (wt_lnE wt_L41) (hD 41 (Nat.le_of_ble_eq_true rfl)) hq4) (by omega) rfl rfl (Nat.le_of_ble_eq_true rfl) (Nat.zero_le _) wp_pg_readLetter_d47 (fun hbq4 => ?_)
    refine wt_iload_n hE wp_pg_readLetter_d50 rfl ?_
    refine wt_icmp_ne hE 92 wp_pg_readLetter_d51 rfl (fun c5 => ?_) (fun c5 => ?_)
    · have h := wt_in c5 h
      refine wt_wk [true, true, true, true, true, true, false] rfl ?_
      exact wp_pg_readLetter_B92_ok hE hR hD hK16 h
    · have h := wt_ip c5 h
      refine wt_aload_n hE wp_pg_readLetter_d54 rfl ?_
      refine wt_getr hE (r := 39) wt_lf_pg_23 (hD 77 (Nat.le_of_ble_eq_true rfl)) wt_L77 rfl wp_pg_readLetter_d55 ?_
      refine wt_getr hE (r := 42) wt_lf_pg_84 (hD 39 (Nat.le_of_ble_eq_true rfl)) wt_L39 rfl wp_pg_readLetter_d58 ?_
      refine wt_iload hE wp_pg_readLetter_d61 rfl ?_
      obtain ⟨q6, hq6, h⟩ := wt_bi h
      refine wt_callSi hE [.ref (wt_ad (wt_xw X) 42), .int ((x2 * (12 : Int32)) + s.1)] wt_lm_pg_46 wt_ya_ap_look (wp_ap_look_ok (wt_lnE wt_L42) (hD 42 (Nat.le_of_ble_eq_true rfl)) hq6) (by omega) rfl rfl (Nat.le_of_ble_eq_true rfl) (Nat.zero_le _) wp_pg_readLetter_d63 (fun hbq6 => ?_)
      refine wt_iload_n hE wp_pg_readLetter_d66 rfl ?_
      refine wt_icmp_ne hE 92 wp_pg_readLetter_d67 rfl (fun c7 => ?_) (fun c7 => ?_)
      · have h := wt_in c7 h
        refine wt_wk [true, true, true, true, true, true, false] rfl ?_
        exact wp_pg_readLetter_B92_ok hE hR hD hK16 h
      · have h := wt_ip c7 h
        refine wt_aload_n hE wp_pg_readLetter_d70 rfl ?_
        refine wt_iload hE wp_pg_readLetter_d71 rfl ?_
        obtain ⟨q8, hq8, h⟩ := wt_bi h
        refine wt_callVi hE [.int ((x2 * (12 : Int32)) + s.1)] wt_lm_pg_91 wt_ya_pg_isFaint (wp_pg_isFaint_ok hD hq8) (by omega) (hD 77 (Nat.le_of_ble_eq_true rfl)) wt_L77 rfl rfl rfl (Nat.le_of_ble_eq_true rfl) (Nat.zero_le _) wp_pg_readLetter_d73 (fun hbq8 => ?_)
        refine wt_if_eq hE 90 wp_pg_readLetter_d76 rfl (fun c9 => ?_) (fun c9 => ?_)
        · have h := wt_ip c9 h
          refine wt_iload_n hE wp_pg_readLetter_d90 rfl ?_
          cases h
          exact wt_iret hE hR wp_pg_readLetter_d91
        · have h := wt_in c9 h
          refine wt_iload hE wp_pg_readLetter_d79 rfl ?_
          refine wt_iconst hE (-1 : Int32) wp_pg_readLetter_d81 wt_ci_m1 ?_
          refine wt_icmp_eq hE 90 wp_pg_readLetter_d82 rfl (fun c10 => ?_) (fun c10 => ?_)
          · have h := wt_ip c10 h
            refine wt_iload_n hE wp_pg_readLetter_d90 rfl ?_
            cases h
            exact wt_iret hE hR wp_pg_readLetter_d91
          · have h := wt_in c10 h
            refine wt_iload hE wp_pg_readLetter_d85 rfl ?_
            refine wt_goto hE 91 wp_pg_readLetter_d87 rfl ?_
            cases h
            exact wt_iret hE hR wp_pg_readLetter_d91
noncomputable def wp_pg_readLetter (n : Nat) (x1 : Int32) (x2 : Int32) (x3 : Int32) (σ : wt_St) : Option (Int32 × wt_St) :=
  (wp_ap_look n 10 x2 σ).bind fun q1 =>
  wt_it (wp_pg_readLetter_B16 n x1 x2 x3 q1.1) n ((0 : Int32), q1.2)
set_option maxRecDepth 100000 in
set_option maxHeartbeats 4000000 in
theorem wp_pg_readLetter_ok {l : Launch} {w : wt_E} {n : Nat} {x1 : Int32} {x2 : Int32} {x3 : Int32} (hD : ∀ i, i < 108 → wt_dom w i) {σ : wt_St} {q : Int32 × wt_St} (h : wp_pg_readLetter n x1 x2 x3 σ = some q) : wt_Ctr l w wt_y_pg_readLetter prog_3_method_11_code 7 (some .int) 2 [.ref (wt_ad w 77), .int x1, .int x2, .int x3] σ (some q.1) q.2 := by
  refine wt_ctr wt_pl_pg_readLetter rfl (Nat.le_of_ble_eq_true rfl) [some (.ref (wt_ad w 77)), some (.int x1), some (.int x2), some (.int x3), none, none, none] rfl ?_
  intro X hXl hXw hE hR
  subst hXl
  subst hXw
  have hE : wt_Ok X prog_3_method_11_code 7 "WornType$Pages" 2 0 := hE
  unfold wp_pg_readLetter at h
  refine wt_aload_n hE wp_pg_readLetter_d0 rfl ?_
  refine wt_getr hE (r := 4) wt_lf_pg_9 (hD 77 (Nat.le_of_ble_eq_true rfl)) wt_L77 rfl wp_pg_readLetter_d1 ?_
  refine wt_getr hE (r := 10) wt_lf_pg_132 (hD 4 (Nat.le_of_ble_eq_true rfl)) wt_L4 rfl wp_pg_readLetter_d4 ?_
  refine wt_iload_n hE wp_pg_readLetter_d7 rfl ?_
  obtain ⟨q1, hq1, h⟩ := wt_bi h
  refine wt_callSi hE [.ref (wt_ad (wt_xw X) 10), .int x2] wt_lm_pg_46 wt_ya_ap_look (wp_ap_look_ok (wt_lnE wt_L10) (hD 10 (Nat.le_of_ble_eq_true rfl)) hq1) (by omega) rfl rfl (Nat.le_of_ble_eq_true rfl) (Nat.zero_le _) wp_pg_readLetter_d8 (fun hbq1 => ?_)
  refine wt_istore hE [some (.ref (wt_ad (wt_xw X) 77)), some (.int x1), some (.int x2), some (.int x3), some (.int q1.1), none, none] wp_pg_readLetter_d11 (Nat.le_of_ble_eq_true rfl) rfl ?_
  refine wt_iconst hE (0 : Int32) wp_pg_readLetter_d13 wt_ci_0 ?_
  refine wt_istore hE [some (.ref (wt_ad (wt_xw X) 77)), some (.int x1), some (.int x2), some (.int x3), some (.int q1.1), some (.int (0 : Int32)), none] wp_pg_readLetter_d14 (Nat.le_of_ble_eq_true rfl) rfl ?_
  exact wt_it_ind (fun z => wt_V X 0 z.2 16 [some (.ref (wt_ad (wt_xw X) 77)), some (.int x1), some (.int x2), some (.int x3), some (.int q1.1), some (.int z.1), none] []) (fun K hK z h => wp_pg_readLetter_B16_ok hE hR hD hK h) n ((0 : Int32), q1.2) h
def wb13m3_prog_9_method_11_code_r1 : List (List Nat) := [167, 255, 229, 4, 172] :: []
def wb13m3_prog_9_method_11_code_r0 : List (List Nat) := [3, 54, 4, 21, 4, 29, 162, 0, 27, 42, 27, 21, 4, 182, 0, 53, 44, 21, 4, 184, 0, 41, 159, 0, 5, 3, 172, 132, 4, 1] :: wb13m3_prog_9_method_11_code_r1
set_option maxRecDepth 100000 in
theorem wb13m3_prog_9_method_11_code_c0 : wt_cs prog_9_method_11_code 0 wb13m3_prog_9_method_11_code_r0 := wt_cs_of (by decide +kernel)
theorem wb13m3_prog_9_method_11_code_c1 : wt_cs prog_9_method_11_code 30 wb13m3_prog_9_method_11_code_r1 := wt_cs_tl (m := 30) wb13m3_prog_9_method_11_code_c0 rfl rfl
theorem wp_tg_isSpelled_d0 : decode prog_9_method_11_code 0 = .ok (.iconst 0, 1) := wt_op3 wb13m3_prog_9_method_11_code_c0 0 rfl rfl
theorem wp_tg_isSpelled_d1 : decode prog_9_method_11_code 1 = .ok (.istore 4, 2) := wt_op54 wb13m3_prog_9_method_11_code_c0 1 rfl rfl
theorem wp_tg_isSpelled_d3 : decode prog_9_method_11_code 3 = .ok (.iload 4, 2) := wt_op21 wb13m3_prog_9_method_11_code_c0 3 rfl rfl
theorem wp_tg_isSpelled_d5 : decode prog_9_method_11_code 5 = .ok (.iload_n 3, 1) := wt_op29 wb13m3_prog_9_method_11_code_c0 5 rfl rfl
theorem wp_tg_isSpelled_d6 : decode prog_9_method_11_code 6 = .ok (.if_icmp .ge 27, 3) := wt_op162 wb13m3_prog_9_method_11_code_c0 6 rfl rfl rfl
theorem wp_tg_isSpelled_d9 : decode prog_9_method_11_code 9 = .ok (.aload_n 0, 1) := wt_op42 wb13m3_prog_9_method_11_code_c0 9 rfl rfl
theorem wp_tg_isSpelled_d10 : decode prog_9_method_11_code 10 = .ok (.iload_n 1, 1) := wt_op27 wb13m3_prog_9_method_11_code_c0 10 rfl rfl
theorem wp_tg_isSpelled_d11 : decode prog_9_method_11_code 11 = .ok (.iload 4, 2) := wt_op21 wb13m3_prog_9_method_11_code_c0 11 rfl rfl
theorem wp_tg_isSpelled_d13 : decode prog_9_method_11_code 13 = .ok (.invokevirtual 53, 3) := wt_op182 wb13m3_prog_9_method_11_code_c0 13 rfl rfl rfl
theorem wp_tg_isSpelled_d16 : decode prog_9_method_11_code 16 = .ok (.aload_n 2, 1) := wt_op44 wb13m3_prog_9_method_11_code_c0 16 rfl rfl
theorem wp_tg_isSpelled_d17 : decode prog_9_method_11_code 17 = .ok (.iload 4, 2) := wt_op21 wb13m3_prog_9_method_11_code_c0 17 rfl rfl
theorem wp_tg_isSpelled_d19 : decode prog_9_method_11_code 19 = .ok (.invokestatic 41, 3) := wt_op184 wb13m3_prog_9_method_11_code_c0 19 rfl rfl rfl
theorem wp_tg_isSpelled_d22 : decode prog_9_method_11_code 22 = .ok (.if_icmp .eq 5, 3) := wt_op159 wb13m3_prog_9_method_11_code_c0 22 rfl rfl rfl
theorem wp_tg_isSpelled_d25 : decode prog_9_method_11_code 25 = .ok (.iconst 0, 1) := wt_op3 wb13m3_prog_9_method_11_code_c0 25 rfl rfl
theorem wp_tg_isSpelled_d26 : decode prog_9_method_11_code 26 = .ok (.ireturn, 1) := wt_op172 wb13m3_prog_9_method_11_code_c0 26 rfl rfl
theorem wp_tg_isSpelled_d27 : decode prog_9_method_11_code 27 = .ok (.iinc 4 1, 3) := wt_op132 wb13m3_prog_9_method_11_code_c0 27 rfl rfl rfl
theorem wp_tg_isSpelled_d30 : decode prog_9_method_11_code 30 = .ok (.goto (-27), 3) := wt_op167 wb13m3_prog_9_method_11_code_c1 0 rfl rfl rfl
theorem wp_tg_isSpelled_d33 : decode prog_9_method_11_code 33 = .ok (.iconst 1, 1) := wt_op4 wb13m3_prog_9_method_11_code_c1 3 rfl rfl
theorem wp_tg_isSpelled_d34 : decode prog_9_method_11_code 34 = .ok (.ireturn, 1) := wt_op172 wb13m3_prog_9_method_11_code_c1 4 rfl rfl
noncomputable def wp_tg_isSpelled_B3 (n : Nat) (t0 : Nat) (a2 : Nat) (x1 : Int32) (x3 : Int32) (K3 : Int32 × wt_St → Option (Int32 × wt_St)) (s : Int32 × wt_St) : Option (Int32 × wt_St) :=
  if x3 ≤ s.1 then
    some ((1 : Int32), s.2)
  else
    (wp_tg_letterAt n t0 x1 s.1 s.2).bind fun q2 =>
    (wp_ap_look n a2 s.1 q2.2).bind fun q3 =>
    if q2.1 = q3.1 then
      K3 ((s.1 + (1 : Int32)), q3.2)
    else
      some ((0 : Int32), q3.2)
set_option maxRecDepth 100000 in
set_option maxHeartbeats 4000000 in
theorem wp_tg_isSpelled_B3_ok  {t0 : Nat} {a2 : Nat} {x1 : Int32} {x3 : Int32} {X : wt_X} {n : Nat} {res : Int32 × wt_St} (hE : wt_Ok X prog_9_method_11_code 5 "WornType$Tongue" 2 0) (hR : wt_Rt X (some .boolean) (some res.1) res.2) (hI_t0 : wt_isTongue t0) (hT_t0 : ∀ j, j < 7 → wt_dom (wt_xw X) (t0 + j)) (hA_a2 : wt_LAY[a2]? = some (0, wt_ln a2, [])) (hd_a2 : wt_dom (wt_xw X) a2) {K3 : Int32 × wt_St → Option (Int32 × wt_St)} (hK3 : ∀ s : Int32 × wt_St, K3 s = some res → wt_V X 0 s.2 3 [some (.ref (wt_ad (wt_xw X) t0)), some (.int x1), some (.ref (wt_ad (wt_xw X) a2)), some (.int x3), some (.int s.1)] []) {s : Int32 × wt_St} (h : wp_tg_isSpelled_B3 n t0 a2 x1 x3 K3 s = some res) : wt_V X 0 s.2 3 [some (.ref (wt_ad (wt_xw X) t0)), some (.int x1), some (.ref (wt_ad (wt_xw X) a2)), some (.int x3), some (.int s.1)] [] := by
  unfold wp_tg_isSpelled_B3 at h
  refine wt_iload hE wp_tg_isSpelled_d3 rfl ?_
  refine wt_iload_n hE wp_tg_isSpelled_d5 rfl ?_
  refine wt_icmp_ge hE 33 wp_tg_isSpelled_d6 rfl (fun c1 => ?_) (fun c1 => ?_)
  · have h := wt_ip c1 h
    refine wt_iconst hE (1 : Int32) wp_tg_isSpelled_d33 wt_ci_1 ?_
    cases h
    exact wt_zret hE (by decide) hR wp_tg_isSpelled_d34
  · have h := wt_in c1 h
    refine wt_aload_n hE wp_tg_isSpelled_d9 rfl ?_
    refine wt_iload_n hE wp_tg_isSpelled_d10 rfl ?_
    refine wt_iload hE wp_tg_isSpelled_d11 rfl ?_
    obtain ⟨q2, hq2, h⟩ := wt_bi h
    refine wt_callVi hE [.int x1, .int s.1] wt_lm_tg_53 wt_ya_tg_letterAt (wp_tg_letterAt_ok hI_t0 hT_t0 hq2) (by omega) (hT_t0 0 (Nat.le_of_ble_eq_true rfl)) (hI_t0.1) rfl rfl rfl (Nat.le_of_ble_eq_true rfl) (Nat.zero_le _) wp_tg_isSpelled_d13 (fun hbq2 => ?_)
    refine wt_aload_n hE wp_tg_isSpelled_d16 rfl ?_
    refine wt_iload hE wp_tg_isSpelled_d17 rfl ?_
    obtain ⟨q3, hq3, h⟩ := wt_bi h
    refine wt_callSi hE [.ref (wt_ad (wt_xw X) a2), .int s.1] wt_lm_tg_41 wt_ya_ap_look (wp_ap_look_ok (wt_lnE hA_a2) hd_a2 hq3) (by omega) rfl rfl (Nat.le_of_ble_eq_true rfl) (Nat.zero_le _) wp_tg_isSpelled_d19 (fun hbq3 => ?_)
    refine wt_icmp_eq hE 27 wp_tg_isSpelled_d22 rfl (fun c4 => ?_) (fun c4 => ?_)
    · have h := wt_ip c4 h
      refine wt_iinc hE (s.1 + (1 : Int32)) [some (.ref (wt_ad (wt_xw X) t0)), some (.int x1), some (.ref (wt_ad (wt_xw X) a2)), some (.int x3), some (.int (s.1 + (1 : Int32)))] wp_tg_isSpelled_d27 (by decide) rfl rfl rfl ?_
      refine wt_goto hE 3 wp_tg_isSpelled_d30 rfl ?_
      exact hK3 ((s.1 + (1 : Int32)), q3.2) h
    · have h := wt_in c4 h
      refine wt_iconst hE (0 : Int32) wp_tg_isSpelled_d25 wt_ci_0 ?_
      cases h
      exact wt_zret hE (by decide) hR wp_tg_isSpelled_d26
noncomputable def wp_tg_isSpelled (n : Nat) (t0 : Nat) (a2 : Nat) (x1 : Int32) (x3 : Int32) (σ : wt_St) : Option (Int32 × wt_St) :=
  wt_it (wp_tg_isSpelled_B3 n t0 a2 x1 x3) n ((0 : Int32), σ)
set_option maxRecDepth 100000 in
set_option maxHeartbeats 4000000 in
theorem wp_tg_isSpelled_ok {l : Launch} {w : wt_E} {n : Nat} {t0 : Nat} {a2 : Nat} {x1 : Int32} {x3 : Int32} (hI_t0 : wt_isTongue t0) (hT_t0 : ∀ j, j < 7 → wt_dom w (t0 + j)) (hA_a2 : wt_LAY[a2]? = some (0, wt_ln a2, [])) (hd_a2 : wt_dom w a2) {σ : wt_St} {q : Int32 × wt_St} (h : wp_tg_isSpelled n t0 a2 x1 x3 σ = some q) : wt_Ctr l w wt_y_tg_isSpelled prog_9_method_11_code 5 (some .boolean) 2 [.ref (wt_ad w t0), .int x1, .ref (wt_ad w a2), .int x3] σ (some q.1) q.2 := by
  refine wt_ctr wt_pl_tg_isSpelled rfl (Nat.le_of_ble_eq_true rfl) [some (.ref (wt_ad w t0)), some (.int x1), some (.ref (wt_ad w a2)), some (.int x3), none] rfl ?_
  intro X hXl hXw hE hR
  subst hXl
  subst hXw
  have hE : wt_Ok X prog_9_method_11_code 5 "WornType$Tongue" 2 0 := hE
  unfold wp_tg_isSpelled at h
  refine wt_iconst hE (0 : Int32) wp_tg_isSpelled_d0 wt_ci_0 ?_
  refine wt_istore hE [some (.ref (wt_ad (wt_xw X) t0)), some (.int x1), some (.ref (wt_ad (wt_xw X) a2)), some (.int x3), some (.int (0 : Int32))] wp_tg_isSpelled_d1 (Nat.le_of_ble_eq_true rfl) rfl ?_
  exact wt_it_ind (fun z => wt_V X 0 z.2 3 [some (.ref (wt_ad (wt_xw X) t0)), some (.int x1), some (.ref (wt_ad (wt_xw X) a2)), some (.int x3), some (.int z.1)] []) (fun K hK z h => wp_tg_isSpelled_B3_ok hE hR hI_t0 hT_t0 hA_a2 hd_a2 hK h) n ((0 : Int32), σ) h
def wb13m3_prog_9_method_9_code_r1 : List (List Nat) := [153, 0, 5, 29, 172, 132, 3, 1, 167, 255, 221, 2, 172] :: []
def wb13m3_prog_9_method_9_code_r0 : List (List Nat) := [3, 62, 29, 42, 180, 0, 34, 162, 0, 33, 42, 180, 0, 15, 29, 184, 0, 41, 28, 160, 0, 15, 42, 29, 43, 28, 182, 0, 61] :: wb13m3_prog_9_method_9_code_r1
set_option maxRecDepth 100000 in
theorem wb13m3_prog_9_method_9_code_c0 : wt_cs prog_9_method_9_code 0 wb13m3_prog_9_method_9_code_r0 := wt_cs_of (by decide +kernel)
theorem wb13m3_prog_9_method_9_code_c1 : wt_cs prog_9_method_9_code 29 wb13m3_prog_9_method_9_code_r1 := wt_cs_tl (m := 29) wb13m3_prog_9_method_9_code_c0 rfl rfl
theorem wp_tg_find_d0 : decode prog_9_method_9_code 0 = .ok (.iconst 0, 1) := wt_op3 wb13m3_prog_9_method_9_code_c0 0 rfl rfl
theorem wp_tg_find_d1 : decode prog_9_method_9_code 1 = .ok (.istore_n 3, 1) := wt_op62 wb13m3_prog_9_method_9_code_c0 1 rfl rfl
theorem wp_tg_find_d2 : decode prog_9_method_9_code 2 = .ok (.iload_n 3, 1) := wt_op29 wb13m3_prog_9_method_9_code_c0 2 rfl rfl
theorem wp_tg_find_d3 : decode prog_9_method_9_code 3 = .ok (.aload_n 0, 1) := wt_op42 wb13m3_prog_9_method_9_code_c0 3 rfl rfl
theorem wp_tg_find_d4 : decode prog_9_method_9_code 4 = .ok (.getfield 34, 3) := wt_op180 wb13m3_prog_9_method_9_code_c0 4 rfl rfl rfl
theorem wp_tg_find_d7 : decode prog_9_method_9_code 7 = .ok (.if_icmp .ge 33, 3) := wt_op162 wb13m3_prog_9_method_9_code_c0 7 rfl rfl rfl
theorem wp_tg_find_d10 : decode prog_9_method_9_code 10 = .ok (.aload_n 0, 1) := wt_op42 wb13m3_prog_9_method_9_code_c0 10 rfl rfl
theorem wp_tg_find_d11 : decode prog_9_method_9_code 11 = .ok (.getfield 15, 3) := wt_op180 wb13m3_prog_9_method_9_code_c0 11 rfl rfl rfl
theorem wp_tg_find_d14 : decode prog_9_method_9_code 14 = .ok (.iload_n 3, 1) := wt_op29 wb13m3_prog_9_method_9_code_c0 14 rfl rfl
theorem wp_tg_find_d15 : decode prog_9_method_9_code 15 = .ok (.invokestatic 41, 3) := wt_op184 wb13m3_prog_9_method_9_code_c0 15 rfl rfl rfl
theorem wp_tg_find_d18 : decode prog_9_method_9_code 18 = .ok (.iload_n 2, 1) := wt_op28 wb13m3_prog_9_method_9_code_c0 18 rfl rfl
theorem wp_tg_find_d19 : decode prog_9_method_9_code 19 = .ok (.if_icmp .ne 15, 3) := wt_op160 wb13m3_prog_9_method_9_code_c0 19 rfl rfl rfl
theorem wp_tg_find_d22 : decode prog_9_method_9_code 22 = .ok (.aload_n 0, 1) := wt_op42 wb13m3_prog_9_method_9_code_c0 22 rfl rfl
theorem wp_tg_find_d23 : decode prog_9_method_9_code 23 = .ok (.iload_n 3, 1) := wt_op29 wb13m3_prog_9_method_9_code_c0 23 rfl rfl
theorem wp_tg_find_d24 : decode prog_9_method_9_code 24 = .ok (.aload_n 1, 1) := wt_op43 wb13m3_prog_9_method_9_code_c0 24 rfl rfl
theorem wp_tg_find_d25 : decode prog_9_method_9_code 25 = .ok (.iload_n 2, 1) := wt_op28 wb13m3_prog_9_method_9_code_c0 25 rfl rfl
theorem wp_tg_find_d26 : decode prog_9_method_9_code 26 = .ok (.invokevirtual 61, 3) := wt_op182 wb13m3_prog_9_method_9_code_c0 26 rfl rfl rfl
theorem wp_tg_find_d29 : decode prog_9_method_9_code 29 = .ok (.ifCond .eq 5, 3) := wt_op153 wb13m3_prog_9_method_9_code_c1 0 rfl rfl rfl
theorem wp_tg_find_d32 : decode prog_9_method_9_code 32 = .ok (.iload_n 3, 1) := wt_op29 wb13m3_prog_9_method_9_code_c1 3 rfl rfl
theorem wp_tg_find_d33 : decode prog_9_method_9_code 33 = .ok (.ireturn, 1) := wt_op172 wb13m3_prog_9_method_9_code_c1 4 rfl rfl
theorem wp_tg_find_d34 : decode prog_9_method_9_code 34 = .ok (.iinc 3 1, 3) := wt_op132 wb13m3_prog_9_method_9_code_c1 5 rfl rfl rfl
theorem wp_tg_find_d37 : decode prog_9_method_9_code 37 = .ok (.goto (-35), 3) := wt_op167 wb13m3_prog_9_method_9_code_c1 8 rfl rfl rfl
theorem wp_tg_find_d40 : decode prog_9_method_9_code 40 = .ok (.iconst (-1), 1) := wt_op2 wb13m3_prog_9_method_9_code_c1 11 rfl rfl
theorem wp_tg_find_d41 : decode prog_9_method_9_code 41 = .ok (.ireturn, 1) := wt_op172 wb13m3_prog_9_method_9_code_c1 12 rfl rfl
noncomputable def wp_tg_find_B34 (n : Nat) (t0 : Nat) (a1 : Nat) (x2 : Int32) (x3 : Int32) (K2 : Int32 × wt_St → Option (Int32 × wt_St)) (σ : wt_St) : Option (Int32 × wt_St) :=
  K2 ((x3 + (1 : Int32)), σ)
set_option maxRecDepth 100000 in
set_option maxHeartbeats 4000000 in
theorem wp_tg_find_B34_ok  {t0 : Nat} {a1 : Nat} {x2 : Int32} {x3 : Int32} {X : wt_X} {n : Nat} {res : Int32 × wt_St} (hE : wt_Ok X prog_9_method_9_code 4 "WornType$Tongue" 3 0) (hR : wt_Rt X (some .int) (some res.1) res.2) (hI_t0 : wt_isTongue t0) (hT_t0 : ∀ j, j < 7 → wt_dom (wt_xw X) (t0 + j)) (hA_a1 : wt_LAY[a1]? = some (0, wt_ln a1, [])) (hd_a1 : wt_dom (wt_xw X) a1) {K2 : Int32 × wt_St → Option (Int32 × wt_St)} (hK2 : ∀ s : Int32 × wt_St, K2 s = some res → wt_V X 0 s.2 2 [some (.ref (wt_ad (wt_xw X) t0)), some (.ref (wt_ad (wt_xw X) a1)), some (.int x2), some (.int s.1)] []) {σ : wt_St} (h : wp_tg_find_B34 n t0 a1 x2 x3 K2 σ = some res) : wt_V X 0 σ 34 [some (.ref (wt_ad (wt_xw X) t0)), some (.ref (wt_ad (wt_xw X) a1)), some (.int x2), some (.int x3)] [] := by
  unfold wp_tg_find_B34 at h
  refine wt_iinc hE (x3 + (1 : Int32)) [some (.ref (wt_ad (wt_xw X) t0)), some (.ref (wt_ad (wt_xw X) a1)), some (.int x2), some (.int (x3 + (1 : Int32)))] wp_tg_find_d34 (by decide) rfl rfl rfl ?_
  refine wt_goto hE 2 wp_tg_find_d37 rfl ?_
  exact hK2 ((x3 + (1 : Int32)), σ) h
noncomputable def wp_tg_find_B2 (n : Nat) (t0 : Nat) (a1 : Nat) (x2 : Int32) (K2 : Int32 × wt_St → Option (Int32 × wt_St)) (s : Int32 × wt_St) : Option (Int32 × wt_St) :=
  if (wt_gf s.2 t0 6) ≤ s.1 then
    some ((-1 : Int32), s.2)
  else
    (wp_ap_look n (t0 + 2) s.1 s.2).bind fun q2 =>
    if q2.1 = x2 then
      (wp_tg_isSpelled n t0 a1 s.1 x2 q2.2).bind fun q4 =>
      if q4.1 = 0 then
        wp_tg_find_B34 n t0 a1 x2 s.1 K2 q4.2
      else
        some (s.1, q4.2)
    else
      wp_tg_find_B34 n t0 a1 x2 s.1 K2 q2.2
set_option maxRecDepth 100000 in
set_option maxHeartbeats 4000000 in
theorem wp_tg_find_B2_ok  {t0 : Nat} {a1 : Nat} {x2 : Int32} {X : wt_X} {n : Nat} {res : Int32 × wt_St} (hE : wt_Ok X prog_9_method_9_code 4 "WornType$Tongue" 3 0) (hR : wt_Rt X (some .int) (some res.1) res.2) (hI_t0 : wt_isTongue t0) (hT_t0 : ∀ j, j < 7 → wt_dom (wt_xw X) (t0 + j)) (hA_a1 : wt_LAY[a1]? = some (0, wt_ln a1, [])) (hd_a1 : wt_dom (wt_xw X) a1) {K2 : Int32 × wt_St → Option (Int32 × wt_St)} (hK2 : ∀ s : Int32 × wt_St, K2 s = some res → wt_V X 0 s.2 2 [some (.ref (wt_ad (wt_xw X) t0)), some (.ref (wt_ad (wt_xw X) a1)), some (.int x2), some (.int s.1)] []) {s : Int32 × wt_St} (h : wp_tg_find_B2 n t0 a1 x2 K2 s = some res) : wt_V X 0 s.2 2 [some (.ref (wt_ad (wt_xw X) t0)), some (.ref (wt_ad (wt_xw X) a1)), some (.int x2), some (.int s.1)] [] := by
  unfold wp_tg_find_B2 at h
  refine wt_iload_n hE wp_tg_find_d2 rfl ?_
  refine wt_aload_n hE wp_tg_find_d3 rfl ?_
  refine wt_geti hE wt_lf_tg_34 (hT_t0 0 (Nat.le_of_ble_eq_true rfl)) (hI_t0.1) rfl wp_tg_find_d4 ?_
  refine wt_icmp_ge hE 40 wp_tg_find_d7 rfl (fun c1 => ?_) (fun c1 => ?_)
  · have h := wt_ip c1 h
    refine wt_iconst hE (-1 : Int32) wp_tg_find_d40 wt_ci_m1 ?_
    cases h
    exact wt_iret hE hR wp_tg_find_d41
  · have h := wt_in c1 h
    refine wt_aload_n hE wp_tg_find_d10 rfl ?_
    refine wt_getr hE (r := (t0 + 2)) wt_lf_tg_15 (hT_t0 0 (Nat.le_of_ble_eq_true rfl)) (hI_t0.1) rfl wp_tg_find_d11 ?_
    refine wt_iload_n hE wp_tg_find_d14 rfl ?_
    obtain ⟨q2, hq2, h⟩ := wt_bi h
    refine wt_callSi hE [.ref (wt_ad (wt_xw X) ((t0 + 2))), .int s.1] wt_lm_tg_41 wt_ya_ap_look (wp_ap_look_ok (wt_lnE (wt_isTongue_L2 hI_t0)) (hT_t0 2 (Nat.le_of_ble_eq_true rfl)) hq2) (by omega) rfl rfl (Nat.le_of_ble_eq_true rfl) (Nat.zero_le _) wp_tg_find_d15 (fun hbq2 => ?_)
    refine wt_iload_n hE wp_tg_find_d18 rfl ?_
    refine wt_icmp_ne hE 34 wp_tg_find_d19 rfl (fun c3 => ?_) (fun c3 => ?_)
    · have h := wt_in c3 h
      exact wp_tg_find_B34_ok hE hR hI_t0 hT_t0 hA_a1 hd_a1 hK2 h
    · have h := wt_ip c3 h
      refine wt_aload_n hE wp_tg_find_d22 rfl ?_
      refine wt_iload_n hE wp_tg_find_d23 rfl ?_
      refine wt_aload_n hE wp_tg_find_d24 rfl ?_
      refine wt_iload_n hE wp_tg_find_d25 rfl ?_
      obtain ⟨q4, hq4, h⟩ := wt_bi h
      refine wt_callVi hE [.int s.1, .ref (wt_ad (wt_xw X) a1), .int x2] wt_lm_tg_61 wt_ya_tg_isSpelled (wp_tg_isSpelled_ok hI_t0 hT_t0 (wt_lnE hA_a1) hd_a1 hq4) (by omega) (hT_t0 0 (Nat.le_of_ble_eq_true rfl)) (hI_t0.1) rfl rfl rfl (Nat.le_of_ble_eq_true rfl) (Nat.zero_le _) wp_tg_find_d26 (fun hbq4 => ?_)
      refine wt_if_eq hE 34 wp_tg_find_d29 rfl (fun c5 => ?_) (fun c5 => ?_)
      · have h := wt_ip c5 h
        exact wp_tg_find_B34_ok hE hR hI_t0 hT_t0 hA_a1 hd_a1 hK2 h
      · have h := wt_in c5 h
        refine wt_iload_n hE wp_tg_find_d32 rfl ?_
        cases h
        exact wt_iret hE hR wp_tg_find_d33
noncomputable def wp_tg_find (n : Nat) (t0 : Nat) (a1 : Nat) (x2 : Int32) (σ : wt_St) : Option (Int32 × wt_St) :=
  wt_it (wp_tg_find_B2 n t0 a1 x2) n ((0 : Int32), σ)
set_option maxRecDepth 100000 in
set_option maxHeartbeats 4000000 in
theorem wp_tg_find_ok {l : Launch} {w : wt_E} {n : Nat} {t0 : Nat} {a1 : Nat} {x2 : Int32} (hI_t0 : wt_isTongue t0) (hT_t0 : ∀ j, j < 7 → wt_dom w (t0 + j)) (hA_a1 : wt_LAY[a1]? = some (0, wt_ln a1, [])) (hd_a1 : wt_dom w a1) {σ : wt_St} {q : Int32 × wt_St} (h : wp_tg_find n t0 a1 x2 σ = some q) : wt_Ctr l w wt_y_tg_find prog_9_method_9_code 4 (some .int) 3 [.ref (wt_ad w t0), .ref (wt_ad w a1), .int x2] σ (some q.1) q.2 := by
  refine wt_ctr wt_pl_tg_find rfl (Nat.le_of_ble_eq_true rfl) [some (.ref (wt_ad w t0)), some (.ref (wt_ad w a1)), some (.int x2), none] rfl ?_
  intro X hXl hXw hE hR
  subst hXl
  subst hXw
  have hE : wt_Ok X prog_9_method_9_code 4 "WornType$Tongue" 3 0 := hE
  unfold wp_tg_find at h
  refine wt_iconst hE (0 : Int32) wp_tg_find_d0 wt_ci_0 ?_
  refine wt_istore_n hE [some (.ref (wt_ad (wt_xw X) t0)), some (.ref (wt_ad (wt_xw X) a1)), some (.int x2), some (.int (0 : Int32))] wp_tg_find_d1 (by decide) rfl ?_
  exact wt_it_ind (fun z => wt_V X 0 z.2 2 [some (.ref (wt_ad (wt_xw X) t0)), some (.ref (wt_ad (wt_xw X) a1)), some (.int x2), some (.int z.1)] []) (fun K hK z h => wp_tg_find_B2_ok hE hR hI_t0 hT_t0 hA_a1 hd_a1 hK h) n ((0 : Int32), σ) h
def wb13m3_prog_3_method_10_code_r5 : List (List Nat) := [184, 0, 80, 132, 6, 1, 167, 255, 191, 42, 180, 0, 15, 42, 180, 0, 38, 21, 5, 182, 0, 129, 172] :: []
def wb13m3_prog_3_method_10_code_r4 : List (List Nat) := [42, 180, 0, 38, 21, 6, 42, 27, 21, 7, 21, 8, 182, 0, 125, 184, 0, 80, 42, 180, 0, 35, 21, 7, 21, 8, 4, 96] :: wb13m3_prog_3_method_10_code_r5
def wb13m3_prog_3_method_10_code_r3 : List (List Nat) := [21, 5, 162, 0, 64, 42, 180, 0, 15, 21, 4, 21, 6, 182, 0, 122, 54, 7, 42, 180, 0, 35, 21, 7, 184, 0, 46, 54, 8] :: wb13m3_prog_3_method_10_code_r4
def wb13m3_prog_3_method_10_code_r2 : List (List Nat) := [180, 0, 19, 29, 28, 182, 0, 107, 54, 4, 42, 180, 0, 15, 180, 0, 119, 21, 4, 184, 0, 46, 54, 5, 3, 54, 6, 21, 6] :: wb13m3_prog_3_method_10_code_r3
def wb13m3_prog_3_method_10_code_r1 : List (List Nat) := [42, 180, 0, 15, 42, 180, 0, 19, 29, 21, 4, 182, 0, 107, 42, 180, 0, 35, 182, 0, 114, 132, 4, 1, 167, 255, 226, 42] :: wb13m3_prog_3_method_10_code_r2
def wb13m3_prog_3_method_10_code_r0 : List (List Nat) := [42, 180, 0, 23, 180, 0, 41, 27, 184, 0, 46, 62, 42, 180, 0, 35, 3, 184, 0, 110, 3, 54, 4, 21, 4, 28, 162, 0, 30] :: wb13m3_prog_3_method_10_code_r1
set_option maxRecDepth 100000 in
theorem wb13m3_prog_3_method_10_code_c0 : wt_cs prog_3_method_10_code 0 wb13m3_prog_3_method_10_code_r0 := wt_cs_of (by decide +kernel)
theorem wb13m3_prog_3_method_10_code_c1 : wt_cs prog_3_method_10_code 29 wb13m3_prog_3_method_10_code_r1 := wt_cs_tl (m := 29) wb13m3_prog_3_method_10_code_c0 rfl rfl
theorem wb13m3_prog_3_method_10_code_c2 : wt_cs prog_3_method_10_code 57 wb13m3_prog_3_method_10_code_r2 := wt_cs_tl (m := 28) wb13m3_prog_3_method_10_code_c1 rfl rfl
theorem wb13m3_prog_3_method_10_code_c3 : wt_cs prog_3_method_10_code 86 wb13m3_prog_3_method_10_code_r3 := wt_cs_tl (m := 29) wb13m3_prog_3_method_10_code_c2 rfl rfl
theorem wb13m3_prog_3_method_10_code_c4 : wt_cs prog_3_method_10_code 115 wb13m3_prog_3_method_10_code_r4 := wt_cs_tl (m := 29) wb13m3_prog_3_method_10_code_c3 rfl rfl
theorem wb13m3_prog_3_method_10_code_c5 : wt_cs prog_3_method_10_code 143 wb13m3_prog_3_method_10_code_r5 := wt_cs_tl (m := 28) wb13m3_prog_3_method_10_code_c4 rfl rfl
theorem wp_pg_readAs_d0 : decode prog_3_method_10_code 0 = .ok (.aload_n 0, 1) := wt_op42 wb13m3_prog_3_method_10_code_c0 0 rfl rfl
theorem wp_pg_readAs_d1 : decode prog_3_method_10_code 1 = .ok (.getfield 23, 3) := wt_op180 wb13m3_prog_3_method_10_code_c0 1 rfl rfl rfl
theorem wp_pg_readAs_d4 : decode prog_3_method_10_code 4 = .ok (.getfield 41, 3) := wt_op180 wb13m3_prog_3_method_10_code_c0 4 rfl rfl rfl
theorem wp_pg_readAs_d7 : decode prog_3_method_10_code 7 = .ok (.iload_n 1, 1) := wt_op27 wb13m3_prog_3_method_10_code_c0 7 rfl rfl
theorem wp_pg_readAs_d8 : decode prog_3_method_10_code 8 = .ok (.invokestatic 46, 3) := wt_op184 wb13m3_prog_3_method_10_code_c0 8 rfl rfl rfl
theorem wp_pg_readAs_d11 : decode prog_3_method_10_code 11 = .ok (.istore_n 3, 1) := wt_op62 wb13m3_prog_3_method_10_code_c0 11 rfl rfl
theorem wp_pg_readAs_d12 : decode prog_3_method_10_code 12 = .ok (.aload_n 0, 1) := wt_op42 wb13m3_prog_3_method_10_code_c0 12 rfl rfl
theorem wp_pg_readAs_d13 : decode prog_3_method_10_code 13 = .ok (.getfield 35, 3) := wt_op180 wb13m3_prog_3_method_10_code_c0 13 rfl rfl rfl
theorem wp_pg_readAs_d16 : decode prog_3_method_10_code 16 = .ok (.iconst 0, 1) := wt_op3 wb13m3_prog_3_method_10_code_c0 16 rfl rfl
theorem wp_pg_readAs_d17 : decode prog_3_method_10_code 17 = .ok (.invokestatic 110, 3) := wt_op184 wb13m3_prog_3_method_10_code_c0 17 rfl rfl rfl
theorem wp_pg_readAs_d20 : decode prog_3_method_10_code 20 = .ok (.iconst 0, 1) := wt_op3 wb13m3_prog_3_method_10_code_c0 20 rfl rfl
theorem wp_pg_readAs_d21 : decode prog_3_method_10_code 21 = .ok (.istore 4, 2) := wt_op54 wb13m3_prog_3_method_10_code_c0 21 rfl rfl
theorem wp_pg_readAs_d23 : decode prog_3_method_10_code 23 = .ok (.iload 4, 2) := wt_op21 wb13m3_prog_3_method_10_code_c0 23 rfl rfl
theorem wp_pg_readAs_d25 : decode prog_3_method_10_code 25 = .ok (.iload_n 2, 1) := wt_op28 wb13m3_prog_3_method_10_code_c0 25 rfl rfl
theorem wp_pg_readAs_d26 : decode prog_3_method_10_code 26 = .ok (.if_icmp .ge 30, 3) := wt_op162 wb13m3_prog_3_method_10_code_c0 26 rfl rfl rfl
theorem wp_pg_readAs_d29 : decode prog_3_method_10_code 29 = .ok (.aload_n 0, 1) := wt_op42 wb13m3_prog_3_method_10_code_c1 0 rfl rfl
theorem wp_pg_readAs_d30 : decode prog_3_method_10_code 30 = .ok (.getfield 15, 3) := wt_op180 wb13m3_prog_3_method_10_code_c1 1 rfl rfl rfl
theorem wp_pg_readAs_d33 : decode prog_3_method_10_code 33 = .ok (.aload_n 0, 1) := wt_op42 wb13m3_prog_3_method_10_code_c1 4 rfl rfl
theorem wp_pg_readAs_d34 : decode prog_3_method_10_code 34 = .ok (.getfield 19, 3) := wt_op180 wb13m3_prog_3_method_10_code_c1 5 rfl rfl rfl
theorem wp_pg_readAs_d37 : decode prog_3_method_10_code 37 = .ok (.iload_n 3, 1) := wt_op29 wb13m3_prog_3_method_10_code_c1 8 rfl rfl
theorem wp_pg_readAs_d38 : decode prog_3_method_10_code 38 = .ok (.iload 4, 2) := wt_op21 wb13m3_prog_3_method_10_code_c1 9 rfl rfl
theorem wp_pg_readAs_d40 : decode prog_3_method_10_code 40 = .ok (.invokevirtual 107, 3) := wt_op182 wb13m3_prog_3_method_10_code_c1 11 rfl rfl rfl
theorem wp_pg_readAs_d43 : decode prog_3_method_10_code 43 = .ok (.aload_n 0, 1) := wt_op42 wb13m3_prog_3_method_10_code_c1 14 rfl rfl
theorem wp_pg_readAs_d44 : decode prog_3_method_10_code 44 = .ok (.getfield 35, 3) := wt_op180 wb13m3_prog_3_method_10_code_c1 15 rfl rfl rfl
theorem wp_pg_readAs_d47 : decode prog_3_method_10_code 47 = .ok (.invokevirtual 114, 3) := wt_op182 wb13m3_prog_3_method_10_code_c1 18 rfl rfl rfl
theorem wp_pg_readAs_d50 : decode prog_3_method_10_code 50 = .ok (.iinc 4 1, 3) := wt_op132 wb13m3_prog_3_method_10_code_c1 21 rfl rfl rfl
theorem wp_pg_readAs_d53 : decode prog_3_method_10_code 53 = .ok (.goto (-30), 3) := wt_op167 wb13m3_prog_3_method_10_code_c1 24 rfl rfl rfl
theorem wp_pg_readAs_d56 : decode prog_3_method_10_code 56 = .ok (.aload_n 0, 1) := wt_op42 wb13m3_prog_3_method_10_code_c1 27 rfl rfl
theorem wp_pg_readAs_d57 : decode prog_3_method_10_code 57 = .ok (.getfield 19, 3) := wt_op180 wb13m3_prog_3_method_10_code_c2 0 rfl rfl rfl
theorem wp_pg_readAs_d60 : decode prog_3_method_10_code 60 = .ok (.iload_n 3, 1) := wt_op29 wb13m3_prog_3_method_10_code_c2 3 rfl rfl
theorem wp_pg_readAs_d61 : decode prog_3_method_10_code 61 = .ok (.iload_n 2, 1) := wt_op28 wb13m3_prog_3_method_10_code_c2 4 rfl rfl
theorem wp_pg_readAs_d62 : decode prog_3_method_10_code 62 = .ok (.invokevirtual 107, 3) := wt_op182 wb13m3_prog_3_method_10_code_c2 5 rfl rfl rfl
theorem wp_pg_readAs_d65 : decode prog_3_method_10_code 65 = .ok (.istore 4, 2) := wt_op54 wb13m3_prog_3_method_10_code_c2 8 rfl rfl
theorem wp_pg_readAs_d67 : decode prog_3_method_10_code 67 = .ok (.aload_n 0, 1) := wt_op42 wb13m3_prog_3_method_10_code_c2 10 rfl rfl
theorem wp_pg_readAs_d68 : decode prog_3_method_10_code 68 = .ok (.getfield 15, 3) := wt_op180 wb13m3_prog_3_method_10_code_c2 11 rfl rfl rfl
theorem wp_pg_readAs_d71 : decode prog_3_method_10_code 71 = .ok (.getfield 119, 3) := wt_op180 wb13m3_prog_3_method_10_code_c2 14 rfl rfl rfl
theorem wp_pg_readAs_d74 : decode prog_3_method_10_code 74 = .ok (.iload 4, 2) := wt_op21 wb13m3_prog_3_method_10_code_c2 17 rfl rfl
theorem wp_pg_readAs_d76 : decode prog_3_method_10_code 76 = .ok (.invokestatic 46, 3) := wt_op184 wb13m3_prog_3_method_10_code_c2 19 rfl rfl rfl
theorem wp_pg_readAs_d79 : decode prog_3_method_10_code 79 = .ok (.istore 5, 2) := wt_op54 wb13m3_prog_3_method_10_code_c2 22 rfl rfl
theorem wp_pg_readAs_d81 : decode prog_3_method_10_code 81 = .ok (.iconst 0, 1) := wt_op3 wb13m3_prog_3_method_10_code_c2 24 rfl rfl
theorem wp_pg_readAs_d82 : decode prog_3_method_10_code 82 = .ok (.istore 6, 2) := wt_op54 wb13m3_prog_3_method_10_code_c2 25 rfl rfl
theorem wp_pg_readAs_d84 : decode prog_3_method_10_code 84 = .ok (.iload 6, 2) := wt_op21 wb13m3_prog_3_method_10_code_c2 27 rfl rfl
theorem wp_pg_readAs_d86 : decode prog_3_method_10_code 86 = .ok (.iload 5, 2) := wt_op21 wb13m3_prog_3_method_10_code_c3 0 rfl rfl
theorem wp_pg_readAs_d88 : decode prog_3_method_10_code 88 = .ok (.if_icmp .ge 64, 3) := wt_op162 wb13m3_prog_3_method_10_code_c3 2 rfl rfl rfl
theorem wp_pg_readAs_d91 : decode prog_3_method_10_code 91 = .ok (.aload_n 0, 1) := wt_op42 wb13m3_prog_3_method_10_code_c3 5 rfl rfl
theorem wp_pg_readAs_d92 : decode prog_3_method_10_code 92 = .ok (.getfield 15, 3) := wt_op180 wb13m3_prog_3_method_10_code_c3 6 rfl rfl rfl
theorem wp_pg_readAs_d95 : decode prog_3_method_10_code 95 = .ok (.iload 4, 2) := wt_op21 wb13m3_prog_3_method_10_code_c3 9 rfl rfl
theorem wp_pg_readAs_d97 : decode prog_3_method_10_code 97 = .ok (.iload 6, 2) := wt_op21 wb13m3_prog_3_method_10_code_c3 11 rfl rfl
theorem wp_pg_readAs_d99 : decode prog_3_method_10_code 99 = .ok (.invokevirtual 122, 3) := wt_op182 wb13m3_prog_3_method_10_code_c3 13 rfl rfl rfl
theorem wp_pg_readAs_d102 : decode prog_3_method_10_code 102 = .ok (.istore 7, 2) := wt_op54 wb13m3_prog_3_method_10_code_c3 16 rfl rfl
theorem wp_pg_readAs_d104 : decode prog_3_method_10_code 104 = .ok (.aload_n 0, 1) := wt_op42 wb13m3_prog_3_method_10_code_c3 18 rfl rfl
theorem wp_pg_readAs_d105 : decode prog_3_method_10_code 105 = .ok (.getfield 35, 3) := wt_op180 wb13m3_prog_3_method_10_code_c3 19 rfl rfl rfl
theorem wp_pg_readAs_d108 : decode prog_3_method_10_code 108 = .ok (.iload 7, 2) := wt_op21 wb13m3_prog_3_method_10_code_c3 22 rfl rfl
theorem wp_pg_readAs_d110 : decode prog_3_method_10_code 110 = .ok (.invokestatic 46, 3) := wt_op184 wb13m3_prog_3_method_10_code_c3 24 rfl rfl rfl
theorem wp_pg_readAs_d113 : decode prog_3_method_10_code 113 = .ok (.istore 8, 2) := wt_op54 wb13m3_prog_3_method_10_code_c3 27 rfl rfl
theorem wp_pg_readAs_d115 : decode prog_3_method_10_code 115 = .ok (.aload_n 0, 1) := wt_op42 wb13m3_prog_3_method_10_code_c4 0 rfl rfl
theorem wp_pg_readAs_d116 : decode prog_3_method_10_code 116 = .ok (.getfield 38, 3) := wt_op180 wb13m3_prog_3_method_10_code_c4 1 rfl rfl rfl
theorem wp_pg_readAs_d119 : decode prog_3_method_10_code 119 = .ok (.iload 6, 2) := wt_op21 wb13m3_prog_3_method_10_code_c4 4 rfl rfl
theorem wp_pg_readAs_d121 : decode prog_3_method_10_code 121 = .ok (.aload_n 0, 1) := wt_op42 wb13m3_prog_3_method_10_code_c4 6 rfl rfl
theorem wp_pg_readAs_d122 : decode prog_3_method_10_code 122 = .ok (.iload_n 1, 1) := wt_op27 wb13m3_prog_3_method_10_code_c4 7 rfl rfl
theorem wp_pg_readAs_d123 : decode prog_3_method_10_code 123 = .ok (.iload 7, 2) := wt_op21 wb13m3_prog_3_method_10_code_c4 8 rfl rfl
theorem wp_pg_readAs_d125 : decode prog_3_method_10_code 125 = .ok (.iload 8, 2) := wt_op21 wb13m3_prog_3_method_10_code_c4 10 rfl rfl
theorem wp_pg_readAs_d127 : decode prog_3_method_10_code 127 = .ok (.invokevirtual 125, 3) := wt_op182 wb13m3_prog_3_method_10_code_c4 12 rfl rfl rfl
theorem wp_pg_readAs_d130 : decode prog_3_method_10_code 130 = .ok (.invokestatic 80, 3) := wt_op184 wb13m3_prog_3_method_10_code_c4 15 rfl rfl rfl
theorem wp_pg_readAs_d133 : decode prog_3_method_10_code 133 = .ok (.aload_n 0, 1) := wt_op42 wb13m3_prog_3_method_10_code_c4 18 rfl rfl
theorem wp_pg_readAs_d134 : decode prog_3_method_10_code 134 = .ok (.getfield 35, 3) := wt_op180 wb13m3_prog_3_method_10_code_c4 19 rfl rfl rfl
theorem wp_pg_readAs_d137 : decode prog_3_method_10_code 137 = .ok (.iload 7, 2) := wt_op21 wb13m3_prog_3_method_10_code_c4 22 rfl rfl
theorem wp_pg_readAs_d139 : decode prog_3_method_10_code 139 = .ok (.iload 8, 2) := wt_op21 wb13m3_prog_3_method_10_code_c4 24 rfl rfl
theorem wp_pg_readAs_d141 : decode prog_3_method_10_code 141 = .ok (.iconst 1, 1) := wt_op4 wb13m3_prog_3_method_10_code_c4 26 rfl rfl
theorem wp_pg_readAs_d142 : decode prog_3_method_10_code 142 = .ok (.iadd, 1) := wt_op96 wb13m3_prog_3_method_10_code_c4 27 rfl rfl
theorem wp_pg_readAs_d143 : decode prog_3_method_10_code 143 = .ok (.invokestatic 80, 3) := wt_op184 wb13m3_prog_3_method_10_code_c5 0 rfl rfl rfl
theorem wp_pg_readAs_d146 : decode prog_3_method_10_code 146 = .ok (.iinc 6 1, 3) := wt_op132 wb13m3_prog_3_method_10_code_c5 3 rfl rfl rfl
theorem wp_pg_readAs_d149 : decode prog_3_method_10_code 149 = .ok (.goto (-65), 3) := wt_op167 wb13m3_prog_3_method_10_code_c5 6 rfl rfl rfl
theorem wp_pg_readAs_d152 : decode prog_3_method_10_code 152 = .ok (.aload_n 0, 1) := wt_op42 wb13m3_prog_3_method_10_code_c5 9 rfl rfl
theorem wp_pg_readAs_d153 : decode prog_3_method_10_code 153 = .ok (.getfield 15, 3) := wt_op180 wb13m3_prog_3_method_10_code_c5 10 rfl rfl rfl
theorem wp_pg_readAs_d156 : decode prog_3_method_10_code 156 = .ok (.aload_n 0, 1) := wt_op42 wb13m3_prog_3_method_10_code_c5 13 rfl rfl
theorem wp_pg_readAs_d157 : decode prog_3_method_10_code 157 = .ok (.getfield 38, 3) := wt_op180 wb13m3_prog_3_method_10_code_c5 14 rfl rfl rfl
theorem wp_pg_readAs_d160 : decode prog_3_method_10_code 160 = .ok (.iload 5, 2) := wt_op21 wb13m3_prog_3_method_10_code_c5 17 rfl rfl
theorem wp_pg_readAs_d162 : decode prog_3_method_10_code 162 = .ok (.invokevirtual 129, 3) := wt_op182 wb13m3_prog_3_method_10_code_c5 19 rfl rfl rfl
theorem wp_pg_readAs_d165 : decode prog_3_method_10_code 165 = .ok (.ireturn, 1) := wt_op172 wb13m3_prog_3_method_10_code_c5 22 rfl rfl
noncomputable def wp_pg_readAs_B84 (n : Nat) (x1 : Int32) (x4 : Int32) (x5 : Int32) (K84 : Int32 × wt_St → Option (Int32 × wt_St)) (s : Int32 × wt_St) : Option (Int32 × wt_St) :=
  if x5 ≤ s.1 then
    (wp_tg_find n 20 80 x5 s.2).bind fun q7 =>
    some (q7.1, q7.2)
  else
    (wp_tg_letterAt n 20 x4 s.1 s.2).bind fun q8 =>
    (wp_ap_look n 79 q8.1 q8.2).bind fun q9 =>
    (wp_pg_readLetter n x1 q8.1 q9.1 q9.2).bind fun q10 =>
    (wp_ap_put n 80 s.1 q10.1 q10.2).bind fun q11 =>
    (wp_ap_put n 79 q8.1 (q9.1 + (1 : Int32)) q11).bind fun q12 =>
    K84 ((s.1 + (1 : Int32)), q12)
set_option maxRecDepth 100000 in
set_option maxHeartbeats 4000000 in
theorem wp_pg_readAs_B84_ok  {x1 : Int32} {x4 : Int32} {x5 : Int32} {X : wt_X} {n : Nat} {res : Int32 × wt_St} (hE : wt_Ok X prog_3_method_10_code 9 "WornType$Pages" 4 0) (hR : wt_Rt X (some .int) (some res.1) res.2) (hD : ∀ i, i < 108 → wt_dom (wt_xw X) i)  {K84 : Int32 × wt_St → Option (Int32 × wt_St)} (hK84 : ∀ s : Int32 × wt_St, K84 s = some res → wt_V X 0 s.2 84 [some (.ref (wt_ad (wt_xw X) 77)), some (.int x1), none, none, some (.int x4), some (.int x5), some (.int s.1), none, none] []) {s : Int32 × wt_St} (h : wp_pg_readAs_B84 n x1 x4 x5 K84 s = some res) : wt_V X 0 s.2 84 [some (.ref (wt_ad (wt_xw X) 77)), some (.int x1), none, none, some (.int x4), some (.int x5), some (.int s.1), none, none] [] := by
  unfold wp_pg_readAs_B84 at h
  refine wt_iload hE wp_pg_readAs_d84 rfl ?_
  refine wt_iload hE wp_pg_readAs_d86 rfl ?_
  refine wt_icmp_ge hE 152 wp_pg_readAs_d88 rfl (fun c6 => ?_) (fun c6 => ?_)
  · have h := wt_ip c6 h
    refine wt_aload_n hE wp_pg_readAs_d152 rfl ?_
    refine wt_getr hE (r := 20) wt_lf_pg_15 (hD 77 (Nat.le_of_ble_eq_true rfl)) wt_L77 rfl wp_pg_readAs_d153 ?_
    refine wt_aload_n hE wp_pg_readAs_d156 rfl ?_
    refine wt_getr hE (r := 80) wt_lf_pg_38 (hD 77 (Nat.le_of_ble_eq_true rfl)) wt_L77 rfl wp_pg_readAs_d157 ?_
    refine wt_iload hE wp_pg_readAs_d160 rfl ?_
    obtain ⟨q7, hq7, h⟩ := wt_bi h
    refine wt_callVi hE [.ref (wt_ad (wt_xw X) 80), .int x5] wt_lm_pg_129 wt_ya_tg_find (wp_tg_find_ok wt_isTongue_20 (fun j hj => hD (20 + j) (by omega)) (wt_lnE wt_L80) (hD 80 (Nat.le_of_ble_eq_true rfl)) hq7) (by omega) (hD 20 (Nat.le_of_ble_eq_true rfl)) wt_L20 rfl rfl rfl (Nat.le_of_ble_eq_true rfl) (Nat.zero_le _) wp_pg_readAs_d162 (fun hbq7 => ?_)
    cases h
    exact wt_iret hE hR wp_pg_readAs_d165
  · have h := wt_in c6 h
    refine wt_aload_n hE wp_pg_readAs_d91 rfl ?_
    refine wt_getr hE (r := 20) wt_lf_pg_15 (hD 77 (Nat.le_of_ble_eq_true rfl)) wt_L77 rfl wp_pg_readAs_d92 ?_
    refine wt_iload hE wp_pg_readAs_d95 rfl ?_
    refine wt_iload hE wp_pg_readAs_d97 rfl ?_
    obtain ⟨q8, hq8, h⟩ := wt_bi h
    refine wt_callVi hE [.int x4, .int s.1] wt_lm_pg_122 wt_ya_tg_letterAt (wp_tg_letterAt_ok wt_isTongue_20 (fun j hj => hD (20 + j) (by omega)) hq8) (by omega) (hD 20 (Nat.le_of_ble_eq_true rfl)) wt_L20 rfl rfl rfl (Nat.le_of_ble_eq_true rfl) (Nat.zero_le _) wp_pg_readAs_d99 (fun hbq8 => ?_)
    refine wt_istore hE [some (.ref (wt_ad (wt_xw X) 77)), some (.int x1), none, none, some (.int x4), some (.int x5), some (.int s.1), some (.int q8.1), none] wp_pg_readAs_d102 (Nat.le_of_ble_eq_true rfl) rfl ?_
    refine wt_aload_n hE wp_pg_readAs_d104 rfl ?_
    refine wt_getr hE (r := 79) wt_lf_pg_35 (hD 77 (Nat.le_of_ble_eq_true rfl)) wt_L77 rfl wp_pg_readAs_d105 ?_
    refine wt_iload hE wp_pg_readAs_d108 rfl ?_
    obtain ⟨q9, hq9, h⟩ := wt_bi h
    refine wt_callSi hE [.ref (wt_ad (wt_xw X) 79), .int q8.1] wt_lm_pg_46 wt_ya_ap_look (wp_ap_look_ok (wt_lnE wt_L79) (hD 79 (Nat.le_of_ble_eq_true rfl)) hq9) (by omega) rfl rfl (Nat.le_of_ble_eq_true rfl) (Nat.zero_le _) wp_pg_readAs_d110 (fun hbq9 => ?_)
    refine wt_istore hE [some (.ref (wt_ad (wt_xw X) 77)), some (.int x1), none, none, some (.int x4), some (.int x5), some (.int s.1), some (.int q8.1), some (.int q9.1)] wp_pg_readAs_d113 (Nat.le_of_ble_eq_true rfl) rfl ?_
    refine wt_aload_n hE wp_pg_readAs_d115 rfl ?_
    refine wt_getr hE (r := 80) wt_lf_pg_38 (hD 77 (Nat.le_of_ble_eq_true rfl)) wt_L77 rfl wp_pg_readAs_d116 ?_
    refine wt_iload hE wp_pg_readAs_d119 rfl ?_
    refine wt_aload_n hE wp_pg_readAs_d121 rfl ?_
    refine wt_iload_n hE wp_pg_readAs_d122 rfl ?_
    refine wt_iload hE wp_pg_readAs_d123 rfl ?_
    refine wt_iload hE wp_pg_readAs_d125 rfl ?_
    obtain ⟨q10, hq10, h⟩ := wt_bi h
    refine wt_callVi hE [.int x1, .int q8.1, .int q9.1] wt_lm_pg_125 wt_ya_pg_readLetter (wp_pg_readLetter_ok hD hq10) (by omega) (hD 77 (Nat.le_of_ble_eq_true rfl)) wt_L77 rfl rfl rfl (Nat.le_of_ble_eq_true rfl) (Nat.zero_le _) wp_pg_readAs_d127 (fun hbq10 => ?_)
    obtain ⟨q11, hq11, h⟩ := wt_bi h
    refine wt_callSv hE [.ref (wt_ad (wt_xw X) 80), .int s.1, .int q10.1] wt_lm_pg_80 wt_ya_ap_put (wp_ap_put_ok (wt_lnE wt_L80) (hD 80 (Nat.le_of_ble_eq_true rfl)) hq11) (by omega) rfl rfl (Nat.le_of_ble_eq_true rfl) (Nat.zero_le _) wp_pg_readAs_d130 ?_
    refine wt_aload_n hE wp_pg_readAs_d133 rfl ?_
    refine wt_getr hE (r := 79) wt_lf_pg_35 (hD 77 (Nat.le_of_ble_eq_true rfl)) wt_L77 rfl wp_pg_readAs_d134 ?_
    refine wt_iload hE wp_pg_readAs_d137 rfl ?_
    refine wt_iload hE wp_pg_readAs_d139 rfl ?_
    refine wt_iconst hE (1 : Int32) wp_pg_readAs_d141 wt_ci_1 ?_
    refine wt_iadd hE wp_pg_readAs_d142 ?_
    obtain ⟨q12, hq12, h⟩ := wt_bi h
    refine wt_callSv hE [.ref (wt_ad (wt_xw X) 79), .int q8.1, .int (q9.1 + (1 : Int32))] wt_lm_pg_80 wt_ya_ap_put (wp_ap_put_ok (wt_lnE wt_L79) (hD 79 (Nat.le_of_ble_eq_true rfl)) hq12) (by omega) rfl rfl (Nat.le_of_ble_eq_true rfl) (Nat.zero_le _) wp_pg_readAs_d143 ?_
    refine wt_iinc hE (s.1 + (1 : Int32)) [some (.ref (wt_ad (wt_xw X) 77)), some (.int x1), none, none, some (.int x4), some (.int x5), some (.int (s.1 + (1 : Int32))), some (.int q8.1), some (.int q9.1)] wp_pg_readAs_d146 (by decide) rfl rfl rfl ?_
    refine wt_goto hE 84 wp_pg_readAs_d149 rfl ?_
    refine wt_wk [true, true, true, true, true, true, true, false, false] rfl ?_
    exact hK84 ((s.1 + (1 : Int32)), q12) h
noncomputable def wp_pg_readAs_B23 (n : Nat) (x1 : Int32) (x2 : Int32) (x3 : Int32) (K23 : Int32 × wt_St → Option (Int32 × wt_St)) (s : Int32 × wt_St) : Option (Int32 × wt_St) :=
  if x2 ≤ s.1 then
    (wp_tx_wordAt n x3 x2 s.2).bind fun q4 =>
    (wp_ap_look n 22 q4.1 q4.2).bind fun q5 =>
    wt_it (wp_pg_readAs_B84 n x1 q4.1 q5.1) n ((0 : Int32), q5.2)
  else
    (wp_tx_wordAt n x3 s.1 s.2).bind fun q13 =>
    (wp_tg_countInto n 20 79 q13.1 q13.2).bind fun q14 =>
    K23 ((s.1 + (1 : Int32)), q14)
set_option maxRecDepth 100000 in
set_option maxHeartbeats 4000000 in
theorem wp_pg_readAs_B23_ok  {x1 : Int32} {x2 : Int32} {x3 : Int32} {X : wt_X} {n : Nat} {res : Int32 × wt_St} (hE : wt_Ok X prog_3_method_10_code 9 "WornType$Pages" 4 0) (hR : wt_Rt X (some .int) (some res.1) res.2) (hD : ∀ i, i < 108 → wt_dom (wt_xw X) i)  {K23 : Int32 × wt_St → Option (Int32 × wt_St)} (hK23 : ∀ s : Int32 × wt_St, K23 s = some res → wt_V X 0 s.2 23 [some (.ref (wt_ad (wt_xw X) 77)), some (.int x1), some (.int x2), some (.int x3), some (.int s.1), none, none, none, none] []) {s : Int32 × wt_St} (h : wp_pg_readAs_B23 n x1 x2 x3 K23 s = some res) : wt_V X 0 s.2 23 [some (.ref (wt_ad (wt_xw X) 77)), some (.int x1), some (.int x2), some (.int x3), some (.int s.1), none, none, none, none] [] := by
  unfold wp_pg_readAs_B23 at h
  refine wt_iload hE wp_pg_readAs_d23 rfl ?_
  refine wt_iload_n hE wp_pg_readAs_d25 rfl ?_
  refine wt_icmp_ge hE 56 wp_pg_readAs_d26 rfl (fun c3 => ?_) (fun c3 => ?_)
  · have h := wt_ip c3 h
    refine wt_aload_n hE wp_pg_readAs_d56 rfl ?_
    refine wt_getr hE (r := 34) wt_lf_pg_19 (hD 77 (Nat.le_of_ble_eq_true rfl)) wt_L77 rfl wp_pg_readAs_d57 ?_
    refine wt_iload_n hE wp_pg_readAs_d60 rfl ?_
    refine wt_iload_n hE wp_pg_readAs_d61 rfl ?_
    obtain ⟨q4, hq4, h⟩ := wt_bi h
    refine wt_callVi hE [.int x3, .int x2] wt_lm_pg_107 wt_ya_tx_wordAt (wp_tx_wordAt_ok hD hq4) (by omega) (hD 34 (Nat.le_of_ble_eq_true rfl)) wt_L34 rfl rfl rfl (Nat.le_of_ble_eq_true rfl) (Nat.zero_le _) wp_pg_readAs_d62 (fun hbq4 => ?_)
    refine wt_istore hE [some (.ref (wt_ad (wt_xw X) 77)), some (.int x1), some (.int x2), some (.int x3), some (.int q4.1), none, none, none, none] wp_pg_readAs_d65 (Nat.le_of_ble_eq_true rfl) rfl ?_
    refine wt_aload_n hE wp_pg_readAs_d67 rfl ?_
    refine wt_getr hE (r := 20) wt_lf_pg_15 (hD 77 (Nat.le_of_ble_eq_true rfl)) wt_L77 rfl wp_pg_readAs_d68 ?_
    refine wt_getr hE (r := 22) wt_lf_pg_119 (hD 20 (Nat.le_of_ble_eq_true rfl)) wt_L20 rfl wp_pg_readAs_d71 ?_
    refine wt_iload hE wp_pg_readAs_d74 rfl ?_
    obtain ⟨q5, hq5, h⟩ := wt_bi h
    refine wt_callSi hE [.ref (wt_ad (wt_xw X) 22), .int q4.1] wt_lm_pg_46 wt_ya_ap_look (wp_ap_look_ok (wt_lnE wt_L22) (hD 22 (Nat.le_of_ble_eq_true rfl)) hq5) (by omega) rfl rfl (Nat.le_of_ble_eq_true rfl) (Nat.zero_le _) wp_pg_readAs_d76 (fun hbq5 => ?_)
    refine wt_istore hE [some (.ref (wt_ad (wt_xw X) 77)), some (.int x1), some (.int x2), some (.int x3), some (.int q4.1), some (.int q5.1), none, none, none] wp_pg_readAs_d79 (Nat.le_of_ble_eq_true rfl) rfl ?_
    refine wt_iconst hE (0 : Int32) wp_pg_readAs_d81 wt_ci_0 ?_
    refine wt_istore hE [some (.ref (wt_ad (wt_xw X) 77)), some (.int x1), some (.int x2), some (.int x3), some (.int q4.1), some (.int q5.1), some (.int (0 : Int32)), none, none] wp_pg_readAs_d82 (Nat.le_of_ble_eq_true rfl) rfl ?_
    refine wt_wk [true, true, false, false, true, true, true, true, true] rfl ?_
    exact wt_it_ind (fun z => wt_V X 0 z.2 84 [some (.ref (wt_ad (wt_xw X) 77)), some (.int x1), none, none, some (.int q4.1), some (.int q5.1), some (.int z.1), none, none] []) (fun K hK z h => wp_pg_readAs_B84_ok hE hR hD hK h) n ((0 : Int32), q5.2) h
  · have h := wt_in c3 h
    refine wt_aload_n hE wp_pg_readAs_d29 rfl ?_
    refine wt_getr hE (r := 20) wt_lf_pg_15 (hD 77 (Nat.le_of_ble_eq_true rfl)) wt_L77 rfl wp_pg_readAs_d30 ?_
    refine wt_aload_n hE wp_pg_readAs_d33 rfl ?_
    refine wt_getr hE (r := 34) wt_lf_pg_19 (hD 77 (Nat.le_of_ble_eq_true rfl)) wt_L77 rfl wp_pg_readAs_d34 ?_
    refine wt_iload_n hE wp_pg_readAs_d37 rfl ?_
    refine wt_iload hE wp_pg_readAs_d38 rfl ?_
    obtain ⟨q13, hq13, h⟩ := wt_bi h
    refine wt_callVi hE [.int x3, .int s.1] wt_lm_pg_107 wt_ya_tx_wordAt (wp_tx_wordAt_ok hD hq13) (by omega) (hD 34 (Nat.le_of_ble_eq_true rfl)) wt_L34 rfl rfl rfl (Nat.le_of_ble_eq_true rfl) (Nat.zero_le _) wp_pg_readAs_d40 (fun hbq13 => ?_)
    refine wt_aload_n hE wp_pg_readAs_d43 rfl ?_
    refine wt_getr hE (r := 79) wt_lf_pg_35 (hD 77 (Nat.le_of_ble_eq_true rfl)) wt_L77 rfl wp_pg_readAs_d44 ?_
    obtain ⟨q14, hq14, h⟩ := wt_bi h
    refine wt_callVv hE [.int q13.1, .ref (wt_ad (wt_xw X) 79)] wt_lm_pg_114 wt_ya_tg_countInto (wp_tg_countInto_ok wt_isTongue_20 (fun j hj => hD (20 + j) (by omega)) (wt_lnE wt_L79) (hD 79 (Nat.le_of_ble_eq_true rfl)) hq14) (by omega) (hD 20 (Nat.le_of_ble_eq_true rfl)) wt_L20 rfl rfl rfl (Nat.le_of_ble_eq_true rfl) (Nat.zero_le _) wp_pg_readAs_d47 ?_
    refine wt_iinc hE (s.1 + (1 : Int32)) [some (.ref (wt_ad (wt_xw X) 77)), some (.int x1), some (.int x2), some (.int x3), some (.int (s.1 + (1 : Int32))), none, none, none, none] wp_pg_readAs_d50 (by decide) rfl rfl rfl ?_
    refine wt_goto hE 23 wp_pg_readAs_d53 rfl ?_
    exact hK23 ((s.1 + (1 : Int32)), q14) h
noncomputable def wp_pg_readAs (n : Nat) (x1 : Int32) (x2 : Int32) (σ : wt_St) : Option (Int32 × wt_St) :=
  (wp_ap_look n 43 x1 σ).bind fun q1 =>
  (wp_ap_fillRow n 79 (0 : Int32) q1.2).bind fun q2 =>
  wt_it (wp_pg_readAs_B23 n x1 x2 q1.1) n ((0 : Int32), q2)
set_option maxRecDepth 100000 in
set_option maxHeartbeats 4000000 in
theorem wp_pg_readAs_ok {l : Launch} {w : wt_E} {n : Nat} {x1 : Int32} {x2 : Int32} (hD : ∀ i, i < 108 → wt_dom w i) {σ : wt_St} {q : Int32 × wt_St} (h : wp_pg_readAs n x1 x2 σ = some q) : wt_Ctr l w wt_y_pg_readAs prog_3_method_10_code 9 (some .int) 4 [.ref (wt_ad w 77), .int x1, .int x2] σ (some q.1) q.2 := by
  refine wt_ctr wt_pl_pg_readAs rfl (Nat.le_of_ble_eq_true rfl) [some (.ref (wt_ad w 77)), some (.int x1), some (.int x2), none, none, none, none, none, none] rfl ?_
  intro X hXl hXw hE hR
  subst hXl
  subst hXw
  have hE : wt_Ok X prog_3_method_10_code 9 "WornType$Pages" 4 0 := hE
  unfold wp_pg_readAs at h
  refine wt_aload_n hE wp_pg_readAs_d0 rfl ?_
  refine wt_getr hE (r := 39) wt_lf_pg_23 (hD 77 (Nat.le_of_ble_eq_true rfl)) wt_L77 rfl wp_pg_readAs_d1 ?_
  refine wt_getr hE (r := 43) wt_lf_pg_41 (hD 39 (Nat.le_of_ble_eq_true rfl)) wt_L39 rfl wp_pg_readAs_d4 ?_
  refine wt_iload_n hE wp_pg_readAs_d7 rfl ?_
  obtain ⟨q1, hq1, h⟩ := wt_bi h
  refine wt_callSi hE [.ref (wt_ad (wt_xw X) 43), .int x1] wt_lm_pg_46 wt_ya_ap_look (wp_ap_look_ok (wt_lnE wt_L43) (hD 43 (Nat.le_of_ble_eq_true rfl)) hq1) (by omega) rfl rfl (Nat.le_of_ble_eq_true rfl) (Nat.zero_le _) wp_pg_readAs_d8 (fun hbq1 => ?_)
  refine wt_istore_n hE [some (.ref (wt_ad (wt_xw X) 77)), some (.int x1), some (.int x2), some (.int q1.1), none, none, none, none, none] wp_pg_readAs_d11 (by decide) rfl ?_
  refine wt_aload_n hE wp_pg_readAs_d12 rfl ?_
  refine wt_getr hE (r := 79) wt_lf_pg_35 (hD 77 (Nat.le_of_ble_eq_true rfl)) wt_L77 rfl wp_pg_readAs_d13 ?_
  refine wt_iconst hE (0 : Int32) wp_pg_readAs_d16 wt_ci_0 ?_
  obtain ⟨q2, hq2, h⟩ := wt_bi h
  refine wt_callSv hE [.ref (wt_ad (wt_xw X) 79), .int (0 : Int32)] wt_lm_pg_110 wt_ya_ap_fillRow (wp_ap_fillRow_ok (wt_lnE wt_L79) (hD 79 (Nat.le_of_ble_eq_true rfl)) hq2) (by omega) rfl rfl (Nat.le_of_ble_eq_true rfl) (Nat.zero_le _) wp_pg_readAs_d17 ?_
  refine wt_iconst hE (0 : Int32) wp_pg_readAs_d20 wt_ci_0 ?_
  refine wt_istore hE [some (.ref (wt_ad (wt_xw X) 77)), some (.int x1), some (.int x2), some (.int q1.1), some (.int (0 : Int32)), none, none, none, none] wp_pg_readAs_d21 (Nat.le_of_ble_eq_true rfl) rfl ?_
  exact wt_it_ind (fun z => wt_V X 0 z.2 23 [some (.ref (wt_ad (wt_xw X) 77)), some (.int x1), some (.int x2), some (.int q1.1), some (.int z.1), none, none, none, none] []) (fun K hK z h => wp_pg_readAs_B23_ok hE hR hD hK h) n ((0 : Int32), q2) h
def wb13m3_prog_3_method_9_code_r2 : List (List Nat) := [132, 4, 1, 167, 255, 212, 29, 172] :: []
def wb13m3_prog_3_method_9_code_r1 : List (List Nat) := [29, 42, 27, 21, 4, 182, 0, 104, 42, 180, 0, 19, 28, 21, 4, 182, 0, 107, 159, 0, 7, 4, 167, 0, 4, 3, 96, 62] :: wb13m3_prog_3_method_9_code_r2
def wb13m3_prog_3_method_9_code_r0 : List (List Nat) := [42, 180, 0, 23, 180, 0, 41, 27, 184, 0, 46, 61, 3, 62, 3, 54, 4, 21, 4, 42, 180, 0, 19, 28, 182, 0, 101, 162, 0, 37] :: wb13m3_prog_3_method_9_code_r1
set_option maxRecDepth 100000 in
theorem wb13m3_prog_3_method_9_code_c0 : wt_cs prog_3_method_9_code 0 wb13m3_prog_3_method_9_code_r0 := wt_cs_of (by decide +kernel)
theorem wb13m3_prog_3_method_9_code_c1 : wt_cs prog_3_method_9_code 30 wb13m3_prog_3_method_9_code_r1 := wt_cs_tl (m := 30) wb13m3_prog_3_method_9_code_c0 rfl rfl
theorem wb13m3_prog_3_method_9_code_c2 : wt_cs prog_3_method_9_code 58 wb13m3_prog_3_method_9_code_r2 := wt_cs_tl (m := 28) wb13m3_prog_3_method_9_code_c1 rfl rfl
theorem wp_pg_misreadOn_d0 : decode prog_3_method_9_code 0 = .ok (.aload_n 0, 1) := wt_op42 wb13m3_prog_3_method_9_code_c0 0 rfl rfl
theorem wp_pg_misreadOn_d1 : decode prog_3_method_9_code 1 = .ok (.getfield 23, 3) := wt_op180 wb13m3_prog_3_method_9_code_c0 1 rfl rfl rfl
theorem wp_pg_misreadOn_d4 : decode prog_3_method_9_code 4 = .ok (.getfield 41, 3) := wt_op180 wb13m3_prog_3_method_9_code_c0 4 rfl rfl rfl
theorem wp_pg_misreadOn_d7 : decode prog_3_method_9_code 7 = .ok (.iload_n 1, 1) := wt_op27 wb13m3_prog_3_method_9_code_c0 7 rfl rfl
theorem wp_pg_misreadOn_d8 : decode prog_3_method_9_code 8 = .ok (.invokestatic 46, 3) := wt_op184 wb13m3_prog_3_method_9_code_c0 8 rfl rfl rfl
theorem wp_pg_misreadOn_d11 : decode prog_3_method_9_code 11 = .ok (.istore_n 2, 1) := wt_op61 wb13m3_prog_3_method_9_code_c0 11 rfl rfl
theorem wp_pg_misreadOn_d12 : decode prog_3_method_9_code 12 = .ok (.iconst 0, 1) := wt_op3 wb13m3_prog_3_method_9_code_c0 12 rfl rfl
theorem wp_pg_misreadOn_d13 : decode prog_3_method_9_code 13 = .ok (.istore_n 3, 1) := wt_op62 wb13m3_prog_3_method_9_code_c0 13 rfl rfl
theorem wp_pg_misreadOn_d14 : decode prog_3_method_9_code 14 = .ok (.iconst 0, 1) := wt_op3 wb13m3_prog_3_method_9_code_c0 14 rfl rfl
theorem wp_pg_misreadOn_d15 : decode prog_3_method_9_code 15 = .ok (.istore 4, 2) := wt_op54 wb13m3_prog_3_method_9_code_c0 15 rfl rfl
theorem wp_pg_misreadOn_d17 : decode prog_3_method_9_code 17 = .ok (.iload 4, 2) := wt_op21 wb13m3_prog_3_method_9_code_c0 17 rfl rfl
theorem wp_pg_misreadOn_d19 : decode prog_3_method_9_code 19 = .ok (.aload_n 0, 1) := wt_op42 wb13m3_prog_3_method_9_code_c0 19 rfl rfl
theorem wp_pg_misreadOn_d20 : decode prog_3_method_9_code 20 = .ok (.getfield 19, 3) := wt_op180 wb13m3_prog_3_method_9_code_c0 20 rfl rfl rfl
theorem wp_pg_misreadOn_d23 : decode prog_3_method_9_code 23 = .ok (.iload_n 2, 1) := wt_op28 wb13m3_prog_3_method_9_code_c0 23 rfl rfl
theorem wp_pg_misreadOn_d24 : decode prog_3_method_9_code 24 = .ok (.invokevirtual 101, 3) := wt_op182 wb13m3_prog_3_method_9_code_c0 24 rfl rfl rfl
theorem wp_pg_misreadOn_d27 : decode prog_3_method_9_code 27 = .ok (.if_icmp .ge 37, 3) := wt_op162 wb13m3_prog_3_method_9_code_c0 27 rfl rfl rfl
theorem wp_pg_misreadOn_d30 : decode prog_3_method_9_code 30 = .ok (.iload_n 3, 1) := wt_op29 wb13m3_prog_3_method_9_code_c1 0 rfl rfl
theorem wp_pg_misreadOn_d31 : decode prog_3_method_9_code 31 = .ok (.aload_n 0, 1) := wt_op42 wb13m3_prog_3_method_9_code_c1 1 rfl rfl
theorem wp_pg_misreadOn_d32 : decode prog_3_method_9_code 32 = .ok (.iload_n 1, 1) := wt_op27 wb13m3_prog_3_method_9_code_c1 2 rfl rfl
theorem wp_pg_misreadOn_d33 : decode prog_3_method_9_code 33 = .ok (.iload 4, 2) := wt_op21 wb13m3_prog_3_method_9_code_c1 3 rfl rfl
theorem wp_pg_misreadOn_d35 : decode prog_3_method_9_code 35 = .ok (.invokevirtual 104, 3) := wt_op182 wb13m3_prog_3_method_9_code_c1 5 rfl rfl rfl
theorem wp_pg_misreadOn_d38 : decode prog_3_method_9_code 38 = .ok (.aload_n 0, 1) := wt_op42 wb13m3_prog_3_method_9_code_c1 8 rfl rfl
theorem wp_pg_misreadOn_d39 : decode prog_3_method_9_code 39 = .ok (.getfield 19, 3) := wt_op180 wb13m3_prog_3_method_9_code_c1 9 rfl rfl rfl
theorem wp_pg_misreadOn_d42 : decode prog_3_method_9_code 42 = .ok (.iload_n 2, 1) := wt_op28 wb13m3_prog_3_method_9_code_c1 12 rfl rfl
theorem wp_pg_misreadOn_d43 : decode prog_3_method_9_code 43 = .ok (.iload 4, 2) := wt_op21 wb13m3_prog_3_method_9_code_c1 13 rfl rfl
theorem wp_pg_misreadOn_d45 : decode prog_3_method_9_code 45 = .ok (.invokevirtual 107, 3) := wt_op182 wb13m3_prog_3_method_9_code_c1 15 rfl rfl rfl
theorem wp_pg_misreadOn_d48 : decode prog_3_method_9_code 48 = .ok (.if_icmp .eq 7, 3) := wt_op159 wb13m3_prog_3_method_9_code_c1 18 rfl rfl rfl
theorem wp_pg_misreadOn_d51 : decode prog_3_method_9_code 51 = .ok (.iconst 1, 1) := wt_op4 wb13m3_prog_3_method_9_code_c1 21 rfl rfl
theorem wp_pg_misreadOn_d52 : decode prog_3_method_9_code 52 = .ok (.goto 4, 3) := wt_op167 wb13m3_prog_3_method_9_code_c1 22 rfl rfl rfl
theorem wp_pg_misreadOn_d55 : decode prog_3_method_9_code 55 = .ok (.iconst 0, 1) := wt_op3 wb13m3_prog_3_method_9_code_c1 25 rfl rfl
theorem wp_pg_misreadOn_d56 : decode prog_3_method_9_code 56 = .ok (.iadd, 1) := wt_op96 wb13m3_prog_3_method_9_code_c1 26 rfl rfl
theorem wp_pg_misreadOn_d57 : decode prog_3_method_9_code 57 = .ok (.istore_n 3, 1) := wt_op62 wb13m3_prog_3_method_9_code_c1 27 rfl rfl
theorem wp_pg_misreadOn_d58 : decode prog_3_method_9_code 58 = .ok (.iinc 4 1, 3) := wt_op132 wb13m3_prog_3_method_9_code_c2 0 rfl rfl rfl
theorem wp_pg_misreadOn_d61 : decode prog_3_method_9_code 61 = .ok (.goto (-44), 3) := wt_op167 wb13m3_prog_3_method_9_code_c2 3 rfl rfl rfl
theorem wp_pg_misreadOn_d64 : decode prog_3_method_9_code 64 = .ok (.iload_n 3, 1) := wt_op29 wb13m3_prog_3_method_9_code_c2 6 rfl rfl
theorem wp_pg_misreadOn_d65 : decode prog_3_method_9_code 65 = .ok (.ireturn, 1) := wt_op172 wb13m3_prog_3_method_9_code_c2 7 rfl rfl
noncomputable def wp_pg_misreadOn_B56 (n : Nat) (x1 : Int32) (x2 : Int32) (x4 : Int32) (K17 : Int32 × Int32 × wt_St → Option (Int32 × wt_St)) (y0 : Int32) (y1 : Int32) (σ : wt_St) : Option (Int32 × wt_St) :=
  K17 ((y0 + y1), (x4 + (1 : Int32)), σ)
set_option maxRecDepth 100000 in
set_option maxHeartbeats 4000000 in
theorem wp_pg_misreadOn_B56_ok  {x1 : Int32} {x2 : Int32} {x4 : Int32} {X : wt_X} {n : Nat} {res : Int32 × wt_St} (hE : wt_Ok X prog_3_method_9_code 5 "WornType$Pages" 5 0) (hR : wt_Rt X (some .int) (some res.1) res.2) (hD : ∀ i, i < 108 → wt_dom (wt_xw X) i)  {K17 : Int32 × Int32 × wt_St → Option (Int32 × wt_St)} (hK17 : ∀ s : Int32 × Int32 × wt_St, K17 s = some res → wt_V X 0 s.2.2 17 [some (.ref (wt_ad (wt_xw X) 77)), some (.int x1), some (.int x2), some (.int s.1), some (.int s.2.1)] []) {σ : wt_St} {y0 : Int32} {y1 : Int32} (h : wp_pg_misreadOn_B56 n x1 x2 x4 K17 y0 y1 σ = some res) : wt_V X 0 σ 56 [some (.ref (wt_ad (wt_xw X) 77)), some (.int x1), some (.int x2), none, some (.int x4)] [.int y1, .int y0] := by
  unfold wp_pg_misreadOn_B56 at h
  refine wt_iadd hE wp_pg_misreadOn_d56 ?_
  refine wt_istore_n hE [some (.ref (wt_ad (wt_xw X) 77)), some (.int x1), some (.int x2), some (.int (y0 + y1)), some (.int x4)] wp_pg_misreadOn_d57 (by decide) rfl ?_
  refine wt_iinc hE (x4 + (1 : Int32)) [some (.ref (wt_ad (wt_xw X) 77)), some (.int x1), some (.int x2), some (.int (y0 + y1)), some (.int (x4 + (1 : Int32)))] wp_pg_misreadOn_d58 (by decide) rfl rfl rfl ?_
  refine wt_goto hE 17 wp_pg_misreadOn_d61 rfl ?_
  exact hK17 ((y0 + y1), (x4 + (1 : Int32)), σ) h
noncomputable def wp_pg_misreadOn_B17 (n : Nat) (x1 : Int32) (x2 : Int32) (K17 : Int32 × Int32 × wt_St → Option (Int32 × wt_St)) (s : Int32 × Int32 × wt_St) : Option (Int32 × wt_St) :=
  (wp_tx_lengthOf n x2 s.2.2).bind fun q2 =>
  if q2.1 ≤ s.2.1 then
    some (s.1, q2.2)
  else
    (wp_pg_readAs n x1 s.2.1 q2.2).bind fun q4 =>
    (wp_tx_wordAt n x2 s.2.1 q4.2).bind fun q5 =>
    if q4.1 = q5.1 then
      wp_pg_misreadOn_B56 n x1 x2 s.2.1 K17 s.1 (0 : Int32) q5.2
    else
      wp_pg_misreadOn_B56 n x1 x2 s.2.1 K17 s.1 (1 : Int32) q5.2
set_option maxRecDepth 100000 in
set_option maxHeartbeats 4000000 in
theorem wp_pg_misreadOn_B17_ok  {x1 : Int32} {x2 : Int32} {X : wt_X} {n : Nat} {res : Int32 × wt_St} (hE : wt_Ok X prog_3_method_9_code 5 "WornType$Pages" 5 0) (hR : wt_Rt X (some .int) (some res.1) res.2) (hD : ∀ i, i < 108 → wt_dom (wt_xw X) i)  {K17 : Int32 × Int32 × wt_St → Option (Int32 × wt_St)} (hK17 : ∀ s : Int32 × Int32 × wt_St, K17 s = some res → wt_V X 0 s.2.2 17 [some (.ref (wt_ad (wt_xw X) 77)), some (.int x1), some (.int x2), some (.int s.1), some (.int s.2.1)] []) {s : Int32 × Int32 × wt_St} (h : wp_pg_misreadOn_B17 n x1 x2 K17 s = some res) : wt_V X 0 s.2.2 17 [some (.ref (wt_ad (wt_xw X) 77)), some (.int x1), some (.int x2), some (.int s.1), some (.int s.2.1)] [] := by
  unfold wp_pg_misreadOn_B17 at h
  refine wt_iload hE wp_pg_misreadOn_d17 rfl ?_
  refine wt_aload_n hE wp_pg_misreadOn_d19 rfl ?_
  refine wt_getr hE (r := 34) wt_lf_pg_19 (hD 77 (Nat.le_of_ble_eq_true rfl)) wt_L77 rfl wp_pg_misreadOn_d20 ?_
  refine wt_iload_n hE wp_pg_misreadOn_d23 rfl ?_
  obtain ⟨q2, hq2, h⟩ := wt_bi h
  refine wt_callVi hE [.int x2] wt_lm_pg_101 wt_ya_tx_lengthOf (wp_tx_lengthOf_ok hD hq2) (by omega) (hD 34 (Nat.le_of_ble_eq_true rfl)) wt_L34 rfl rfl rfl (Nat.le_of_ble_eq_true rfl) (Nat.zero_le _) wp_pg_misreadOn_d24 (fun hbq2 => ?_)
  refine wt_icmp_ge hE 64 wp_pg_misreadOn_d27 rfl (fun c3 => ?_) (fun c3 => ?_)
  · have h := wt_ip c3 h
    refine wt_iload_n hE wp_pg_misreadOn_d64 rfl ?_
    cases h
    exact wt_iret hE hR wp_pg_misreadOn_d65
  · have h := wt_in c3 h
    refine wt_iload_n hE wp_pg_misreadOn_d30 rfl ?_
    refine wt_aload_n hE wp_pg_misreadOn_d31 rfl ?_
    refine wt_iload_n hE wp_pg_misreadOn_d32 rfl ?_
    refine wt_iload hE wp_pg_misreadOn_d33 rfl ?_
    obtain ⟨q4, hq4, h⟩ := wt_bi h
    refine wt_callVi hE [.int x1, .int s.2.1] wt_lm_pg_104 wt_ya_pg_readAs (wp_pg_readAs_ok hD hq4) (by omega) (hD 77 (Nat.le_of_ble_eq_true rfl)) wt_L77 rfl rfl rfl (Nat.le_of_ble_eq_true rfl) (Nat.zero_le _) wp_pg_misreadOn_d35 (fun hbq4 => ?_)
    refine wt_aload_n hE wp_pg_misreadOn_d38 rfl ?_
    refine wt_getr hE (r := 34) wt_lf_pg_19 (hD 77 (Nat.le_of_ble_eq_true rfl)) wt_L77 rfl wp_pg_misreadOn_d39 ?_
    refine wt_iload_n hE wp_pg_misreadOn_d42 rfl ?_
    refine wt_iload hE wp_pg_misreadOn_d43 rfl ?_
    obtain ⟨q5, hq5, h⟩ := wt_bi h
    refine wt_callVi hE [.int x2, .int s.2.1] wt_lm_pg_107 wt_ya_tx_wordAt (wp_tx_wordAt_ok hD hq5) (by omega) (hD 34 (Nat.le_of_ble_eq_true rfl)) wt_L34 rfl rfl rfl (Nat.le_of_ble_eq_true rfl) (Nat.zero_le _) wp_pg_misreadOn_d45 (fun hbq5 => ?_)
    refine wt_icmp_eq hE 55 wp_pg_misreadOn_d48 rfl (fun c6 => ?_) (fun c6 => ?_)
    · have h := wt_ip c6 h
      refine wt_iconst hE (0 : Int32) wp_pg_misreadOn_d55 wt_ci_0 ?_
      refine wt_wk [true, true, true, false, true] rfl ?_
      exact wp_pg_misreadOn_B56_ok hE hR hD hK17 h
    · have h := wt_in c6 h
      refine wt_iconst hE (1 : Int32) wp_pg_misreadOn_d51 wt_ci_1 ?_
      refine wt_goto hE 56 wp_pg_misreadOn_d52 rfl ?_
      refine wt_wk [true, true, true, false, true] rfl ?_
      exact wp_pg_misreadOn_B56_ok hE hR hD hK17 h
noncomputable def wp_pg_misreadOn (n : Nat) (x1 : Int32) (σ : wt_St) : Option (Int32 × wt_St) :=
  (wp_ap_look n 43 x1 σ).bind fun q1 =>
  wt_it (wp_pg_misreadOn_B17 n x1 q1.1) n ((0 : Int32), (0 : Int32), q1.2)
set_option maxRecDepth 100000 in
set_option maxHeartbeats 4000000 in
theorem wp_pg_misreadOn_ok {l : Launch} {w : wt_E} {n : Nat} {x1 : Int32} (hD : ∀ i, i < 108 → wt_dom w i) {σ : wt_St} {q : Int32 × wt_St} (h : wp_pg_misreadOn n x1 σ = some q) : wt_Ctr l w wt_y_pg_misreadOn prog_3_method_9_code 5 (some .int) 5 [.ref (wt_ad w 77), .int x1] σ (some q.1) q.2 := by
  refine wt_ctr wt_pl_pg_misreadOn rfl (Nat.le_of_ble_eq_true rfl) [some (.ref (wt_ad w 77)), some (.int x1), none, none, none] rfl ?_
  intro X hXl hXw hE hR
  subst hXl
  subst hXw
  have hE : wt_Ok X prog_3_method_9_code 5 "WornType$Pages" 5 0 := hE
  unfold wp_pg_misreadOn at h
  refine wt_aload_n hE wp_pg_misreadOn_d0 rfl ?_
  refine wt_getr hE (r := 39) wt_lf_pg_23 (hD 77 (Nat.le_of_ble_eq_true rfl)) wt_L77 rfl wp_pg_misreadOn_d1 ?_
  refine wt_getr hE (r := 43) wt_lf_pg_41 (hD 39 (Nat.le_of_ble_eq_true rfl)) wt_L39 rfl wp_pg_misreadOn_d4 ?_
  refine wt_iload_n hE wp_pg_misreadOn_d7 rfl ?_
  obtain ⟨q1, hq1, h⟩ := wt_bi h
  refine wt_callSi hE [.ref (wt_ad (wt_xw X) 43), .int x1] wt_lm_pg_46 wt_ya_ap_look (wp_ap_look_ok (wt_lnE wt_L43) (hD 43 (Nat.le_of_ble_eq_true rfl)) hq1) (by omega) rfl rfl (Nat.le_of_ble_eq_true rfl) (Nat.zero_le _) wp_pg_misreadOn_d8 (fun hbq1 => ?_)
  refine wt_istore_n hE [some (.ref (wt_ad (wt_xw X) 77)), some (.int x1), some (.int q1.1), none, none] wp_pg_misreadOn_d11 (by decide) rfl ?_
  refine wt_iconst hE (0 : Int32) wp_pg_misreadOn_d12 wt_ci_0 ?_
  refine wt_istore_n hE [some (.ref (wt_ad (wt_xw X) 77)), some (.int x1), some (.int q1.1), some (.int (0 : Int32)), none] wp_pg_misreadOn_d13 (by decide) rfl ?_
  refine wt_iconst hE (0 : Int32) wp_pg_misreadOn_d14 wt_ci_0 ?_
  refine wt_istore hE [some (.ref (wt_ad (wt_xw X) 77)), some (.int x1), some (.int q1.1), some (.int (0 : Int32)), some (.int (0 : Int32))] wp_pg_misreadOn_d15 (Nat.le_of_ble_eq_true rfl) rfl ?_
  exact wt_it_ind (fun z => wt_V X 0 z.2.2 17 [some (.ref (wt_ad (wt_xw X) 77)), some (.int x1), some (.int q1.1), some (.int z.1), some (.int z.2.1)] []) (fun K hK z h => wp_pg_misreadOn_B17_ok hE hR hD hK h) n ((0 : Int32), (0 : Int32), q1.2) h
def wb13m3_prog_3_method_5_code_r3 : List (List Nat) := [167, 255, 186, 29, 172] :: []
def wb13m3_prog_3_method_5_code_r2 : List (List Nat) := [42, 180, 0, 23, 180, 0, 60, 21, 4, 21, 5, 184, 0, 80, 29, 21, 5, 154, 0, 7, 4, 167, 0, 4, 3, 96, 62, 132, 4, 1] :: wb13m3_prog_3_method_5_code_r3
def wb13m3_prog_3_method_5_code_r1 : List (List Nat) := [180, 0, 77, 21, 4, 184, 0, 46, 27, 160, 0, 46, 42, 180, 0, 23, 180, 0, 60, 21, 4, 184, 0, 46, 28, 100, 54, 5] :: wb13m3_prog_3_method_5_code_r2
def wb13m3_prog_3_method_5_code_r0 : List (List Nat) := [42, 27, 182, 0, 87, 28, 162, 0, 5, 2, 172, 3, 62, 3, 54, 4, 21, 4, 17, 1, 56, 162, 0, 68, 42, 180, 0, 23] :: wb13m3_prog_3_method_5_code_r1
set_option maxRecDepth 100000 in
theorem wb13m3_prog_3_method_5_code_c0 : wt_cs prog_3_method_5_code 0 wb13m3_prog_3_method_5_code_r0 := wt_cs_of (by decide +kernel)
theorem wb13m3_prog_3_method_5_code_c1 : wt_cs prog_3_method_5_code 28 wb13m3_prog_3_method_5_code_r1 := wt_cs_tl (m := 28) wb13m3_prog_3_method_5_code_c0 rfl rfl
theorem wb13m3_prog_3_method_5_code_c2 : wt_cs prog_3_method_5_code 56 wb13m3_prog_3_method_5_code_r2 := wt_cs_tl (m := 28) wb13m3_prog_3_method_5_code_c1 rfl rfl
theorem wb13m3_prog_3_method_5_code_c3 : wt_cs prog_3_method_5_code 86 wb13m3_prog_3_method_5_code_r3 := wt_cs_tl (m := 30) wb13m3_prog_3_method_5_code_c2 rfl rfl
theorem wp_pg_press_d0 : decode prog_3_method_5_code 0 = .ok (.aload_n 0, 1) := wt_op42 wb13m3_prog_3_method_5_code_c0 0 rfl rfl
theorem wp_pg_press_d1 : decode prog_3_method_5_code 1 = .ok (.iload_n 1, 1) := wt_op27 wb13m3_prog_3_method_5_code_c0 1 rfl rfl
theorem wp_pg_press_d2 : decode prog_3_method_5_code 2 = .ok (.invokevirtual 87, 3) := wt_op182 wb13m3_prog_3_method_5_code_c0 2 rfl rfl rfl
theorem wp_pg_press_d5 : decode prog_3_method_5_code 5 = .ok (.iload_n 2, 1) := wt_op28 wb13m3_prog_3_method_5_code_c0 5 rfl rfl
theorem wp_pg_press_d6 : decode prog_3_method_5_code 6 = .ok (.if_icmp .ge 5, 3) := wt_op162 wb13m3_prog_3_method_5_code_c0 6 rfl rfl rfl
theorem wp_pg_press_d9 : decode prog_3_method_5_code 9 = .ok (.iconst (-1), 1) := wt_op2 wb13m3_prog_3_method_5_code_c0 9 rfl rfl
theorem wp_pg_press_d10 : decode prog_3_method_5_code 10 = .ok (.ireturn, 1) := wt_op172 wb13m3_prog_3_method_5_code_c0 10 rfl rfl
theorem wp_pg_press_d11 : decode prog_3_method_5_code 11 = .ok (.iconst 0, 1) := wt_op3 wb13m3_prog_3_method_5_code_c0 11 rfl rfl
theorem wp_pg_press_d12 : decode prog_3_method_5_code 12 = .ok (.istore_n 3, 1) := wt_op62 wb13m3_prog_3_method_5_code_c0 12 rfl rfl
theorem wp_pg_press_d13 : decode prog_3_method_5_code 13 = .ok (.iconst 0, 1) := wt_op3 wb13m3_prog_3_method_5_code_c0 13 rfl rfl
theorem wp_pg_press_d14 : decode prog_3_method_5_code 14 = .ok (.istore 4, 2) := wt_op54 wb13m3_prog_3_method_5_code_c0 14 rfl rfl
theorem wp_pg_press_d16 : decode prog_3_method_5_code 16 = .ok (.iload 4, 2) := wt_op21 wb13m3_prog_3_method_5_code_c0 16 rfl rfl
theorem wp_pg_press_d18 : decode prog_3_method_5_code 18 = .ok (.sipush 312, 3) := wt_op17 wb13m3_prog_3_method_5_code_c0 18 rfl rfl rfl
theorem wp_pg_press_d21 : decode prog_3_method_5_code 21 = .ok (.if_icmp .ge 68, 3) := wt_op162 wb13m3_prog_3_method_5_code_c0 21 rfl rfl rfl
theorem wp_pg_press_d24 : decode prog_3_method_5_code 24 = .ok (.aload_n 0, 1) := wt_op42 wb13m3_prog_3_method_5_code_c0 24 rfl rfl
theorem wp_pg_press_d25 : decode prog_3_method_5_code 25 = .ok (.getfield 23, 3) := wt_op180 wb13m3_prog_3_method_5_code_c0 25 rfl rfl rfl
theorem wp_pg_press_d28 : decode prog_3_method_5_code 28 = .ok (.getfield 77, 3) := wt_op180 wb13m3_prog_3_method_5_code_c1 0 rfl rfl rfl
theorem wp_pg_press_d31 : decode prog_3_method_5_code 31 = .ok (.iload 4, 2) := wt_op21 wb13m3_prog_3_method_5_code_c1 3 rfl rfl
theorem wp_pg_press_d33 : decode prog_3_method_5_code 33 = .ok (.invokestatic 46, 3) := wt_op184 wb13m3_prog_3_method_5_code_c1 5 rfl rfl rfl
theorem wp_pg_press_d36 : decode prog_3_method_5_code 36 = .ok (.iload_n 1, 1) := wt_op27 wb13m3_prog_3_method_5_code_c1 8 rfl rfl
theorem wp_pg_press_d37 : decode prog_3_method_5_code 37 = .ok (.if_icmp .ne 46, 3) := wt_op160 wb13m3_prog_3_method_5_code_c1 9 rfl rfl rfl
theorem wp_pg_press_d40 : decode prog_3_method_5_code 40 = .ok (.aload_n 0, 1) := wt_op42 wb13m3_prog_3_method_5_code_c1 12 rfl rfl
theorem wp_pg_press_d41 : decode prog_3_method_5_code 41 = .ok (.getfield 23, 3) := wt_op180 wb13m3_prog_3_method_5_code_c1 13 rfl rfl rfl
theorem wp_pg_press_d44 : decode prog_3_method_5_code 44 = .ok (.getfield 60, 3) := wt_op180 wb13m3_prog_3_method_5_code_c1 16 rfl rfl rfl
theorem wp_pg_press_d47 : decode prog_3_method_5_code 47 = .ok (.iload 4, 2) := wt_op21 wb13m3_prog_3_method_5_code_c1 19 rfl rfl
theorem wp_pg_press_d49 : decode prog_3_method_5_code 49 = .ok (.invokestatic 46, 3) := wt_op184 wb13m3_prog_3_method_5_code_c1 21 rfl rfl rfl
theorem wp_pg_press_d52 : decode prog_3_method_5_code 52 = .ok (.iload_n 2, 1) := wt_op28 wb13m3_prog_3_method_5_code_c1 24 rfl rfl
theorem wp_pg_press_d53 : decode prog_3_method_5_code 53 = .ok (.isub, 1) := wt_op100 wb13m3_prog_3_method_5_code_c1 25 rfl rfl
theorem wp_pg_press_d54 : decode prog_3_method_5_code 54 = .ok (.istore 5, 2) := wt_op54 wb13m3_prog_3_method_5_code_c1 26 rfl rfl
theorem wp_pg_press_d56 : decode prog_3_method_5_code 56 = .ok (.aload_n 0, 1) := wt_op42 wb13m3_prog_3_method_5_code_c2 0 rfl rfl
theorem wp_pg_press_d57 : decode prog_3_method_5_code 57 = .ok (.getfield 23, 3) := wt_op180 wb13m3_prog_3_method_5_code_c2 1 rfl rfl rfl
theorem wp_pg_press_d60 : decode prog_3_method_5_code 60 = .ok (.getfield 60, 3) := wt_op180 wb13m3_prog_3_method_5_code_c2 4 rfl rfl rfl
theorem wp_pg_press_d63 : decode prog_3_method_5_code 63 = .ok (.iload 4, 2) := wt_op21 wb13m3_prog_3_method_5_code_c2 7 rfl rfl
theorem wp_pg_press_d65 : decode prog_3_method_5_code 65 = .ok (.iload 5, 2) := wt_op21 wb13m3_prog_3_method_5_code_c2 9 rfl rfl
theorem wp_pg_press_d67 : decode prog_3_method_5_code 67 = .ok (.invokestatic 80, 3) := wt_op184 wb13m3_prog_3_method_5_code_c2 11 rfl rfl rfl
theorem wp_pg_press_d70 : decode prog_3_method_5_code 70 = .ok (.iload_n 3, 1) := wt_op29 wb13m3_prog_3_method_5_code_c2 14 rfl rfl
theorem wp_pg_press_d71 : decode prog_3_method_5_code 71 = .ok (.iload 5, 2) := wt_op21 wb13m3_prog_3_method_5_code_c2 15 rfl rfl
theorem wp_pg_press_d73 : decode prog_3_method_5_code 73 = .ok (.ifCond .ne 7, 3) := wt_op154 wb13m3_prog_3_method_5_code_c2 17 rfl rfl rfl
theorem wp_pg_press_d76 : decode prog_3_method_5_code 76 = .ok (.iconst 1, 1) := wt_op4 wb13m3_prog_3_method_5_code_c2 20 rfl rfl
theorem wp_pg_press_d77 : decode prog_3_method_5_code 77 = .ok (.goto 4, 3) := wt_op167 wb13m3_prog_3_method_5_code_c2 21 rfl rfl rfl
theorem wp_pg_press_d80 : decode prog_3_method_5_code 80 = .ok (.iconst 0, 1) := wt_op3 wb13m3_prog_3_method_5_code_c2 24 rfl rfl
theorem wp_pg_press_d81 : decode prog_3_method_5_code 81 = .ok (.iadd, 1) := wt_op96 wb13m3_prog_3_method_5_code_c2 25 rfl rfl
theorem wp_pg_press_d82 : decode prog_3_method_5_code 82 = .ok (.istore_n 3, 1) := wt_op62 wb13m3_prog_3_method_5_code_c2 26 rfl rfl
theorem wp_pg_press_d83 : decode prog_3_method_5_code 83 = .ok (.iinc 4 1, 3) := wt_op132 wb13m3_prog_3_method_5_code_c2 27 rfl rfl rfl
theorem wp_pg_press_d86 : decode prog_3_method_5_code 86 = .ok (.goto (-70), 3) := wt_op167 wb13m3_prog_3_method_5_code_c3 0 rfl rfl rfl
theorem wp_pg_press_d89 : decode prog_3_method_5_code 89 = .ok (.iload_n 3, 1) := wt_op29 wb13m3_prog_3_method_5_code_c3 3 rfl rfl
theorem wp_pg_press_d90 : decode prog_3_method_5_code 90 = .ok (.ireturn, 1) := wt_op172 wb13m3_prog_3_method_5_code_c3 4 rfl rfl
noncomputable def wp_pg_press_B83 (n : Nat) (x1 : Int32) (x2 : Int32) (x3 : Int32) (x4 : Int32) (K16 : Int32 × Int32 × wt_St → Option (Int32 × wt_St)) (σ : wt_St) : Option (Int32 × wt_St) :=
  K16 (x3, (x4 + (1 : Int32)), σ)
set_option maxRecDepth 100000 in
set_option maxHeartbeats 4000000 in
theorem wp_pg_press_B83_ok  {x1 : Int32} {x2 : Int32} {x3 : Int32} {x4 : Int32} {X : wt_X} {n : Nat} {res : Int32 × wt_St} (hE : wt_Ok X prog_3_method_5_code 6 "WornType$Pages" 2 0) (hR : wt_Rt X (some .int) (some res.1) res.2) (hD : ∀ i, i < 108 → wt_dom (wt_xw X) i)  {K16 : Int32 × Int32 × wt_St → Option (Int32 × wt_St)} (hK16 : ∀ s : Int32 × Int32 × wt_St, K16 s = some res → wt_V X 0 s.2.2 16 [some (.ref (wt_ad (wt_xw X) 77)), some (.int x1), some (.int x2), some (.int s.1), some (.int s.2.1), none] []) {σ : wt_St} (h : wp_pg_press_B83 n x1 x2 x3 x4 K16 σ = some res) : wt_V X 0 σ 83 [some (.ref (wt_ad (wt_xw X) 77)), some (.int x1), some (.int x2), some (.int x3), some (.int x4), none] [] := by
  unfold wp_pg_press_B83 at h
  refine wt_iinc hE (x4 + (1 : Int32)) [some (.ref (wt_ad (wt_xw X) 77)), some (.int x1), some (.int x2), some (.int x3), some (.int (x4 + (1 : Int32))), none] wp_pg_press_d83 (by decide) rfl rfl rfl ?_
  refine wt_goto hE 16 wp_pg_press_d86 rfl ?_
  exact hK16 (x3, (x4 + (1 : Int32)), σ) h
noncomputable def wp_pg_press_B81 (n : Nat) (x1 : Int32) (x2 : Int32) (x4 : Int32) (K16 : Int32 × Int32 × wt_St → Option (Int32 × wt_St)) (y0 : Int32) (y1 : Int32) (σ : wt_St) : Option (Int32 × wt_St) :=
  wp_pg_press_B83 n x1 x2 (y0 + y1) x4 K16 σ
set_option maxRecDepth 100000 in
set_option maxHeartbeats 4000000 in
theorem wp_pg_press_B81_ok  {x1 : Int32} {x2 : Int32} {x4 : Int32} {X : wt_X} {n : Nat} {res : Int32 × wt_St} (hE : wt_Ok X prog_3_method_5_code 6 "WornType$Pages" 2 0) (hR : wt_Rt X (some .int) (some res.1) res.2) (hD : ∀ i, i < 108 → wt_dom (wt_xw X) i)  {K16 : Int32 × Int32 × wt_St → Option (Int32 × wt_St)} (hK16 : ∀ s : Int32 × Int32 × wt_St, K16 s = some res → wt_V X 0 s.2.2 16 [some (.ref (wt_ad (wt_xw X) 77)), some (.int x1), some (.int x2), some (.int s.1), some (.int s.2.1), none] []) {σ : wt_St} {y0 : Int32} {y1 : Int32} (h : wp_pg_press_B81 n x1 x2 x4 K16 y0 y1 σ = some res) : wt_V X 0 σ 81 [some (.ref (wt_ad (wt_xw X) 77)), some (.int x1), some (.int x2), none, some (.int x4), none] [.int y1, .int y0] := by
  unfold wp_pg_press_B81 at h
  refine wt_iadd hE wp_pg_press_d81 ?_
  refine wt_istore_n hE [some (.ref (wt_ad (wt_xw X) 77)), some (.int x1), some (.int x2), some (.int (y0 + y1)), some (.int x4), none] wp_pg_press_d82 (by decide) rfl ?_
  exact wp_pg_press_B83_ok hE hR hD hK16 h
noncomputable def wp_pg_press_B16 (n : Nat) (x1 : Int32) (x2 : Int32) (K16 : Int32 × Int32 × wt_St → Option (Int32 × wt_St)) (s : Int32 × Int32 × wt_St) : Option (Int32 × wt_St) :=
  if (312 : Int32) ≤ s.2.1 then
    some (s.1, s.2.2)
  else
    (wp_ap_look n 41 s.2.1 s.2.2).bind fun q4 =>
    if q4.1 = x1 then
      (wp_ap_look n 40 s.2.1 q4.2).bind fun q6 =>
      (wp_ap_put n 40 s.2.1 (q6.1 - x2) q6.2).bind fun q7 =>
      if (q6.1 - x2) = 0 then
        wp_pg_press_B81 n x1 x2 s.2.1 K16 s.1 (1 : Int32) q7
      else
        wp_pg_press_B81 n x1 x2 s.2.1 K16 s.1 (0 : Int32) q7
    else
      wp_pg_press_B83 n x1 x2 s.1 s.2.1 K16 q4.2
set_option maxRecDepth 100000 in
set_option maxHeartbeats 4000000 in
theorem wp_pg_press_B16_ok  {x1 : Int32} {x2 : Int32} {X : wt_X} {n : Nat} {res : Int32 × wt_St} (hE : wt_Ok X prog_3_method_5_code 6 "WornType$Pages" 2 0) (hR : wt_Rt X (some .int) (some res.1) res.2) (hD : ∀ i, i < 108 → wt_dom (wt_xw X) i)  {K16 : Int32 × Int32 × wt_St → Option (Int32 × wt_St)} (hK16 : ∀ s : Int32 × Int32 × wt_St, K16 s = some res → wt_V X 0 s.2.2 16 [some (.ref (wt_ad (wt_xw X) 77)), some (.int x1), some (.int x2), some (.int s.1), some (.int s.2.1), none] []) {s : Int32 × Int32 × wt_St} (h : wp_pg_press_B16 n x1 x2 K16 s = some res) : wt_V X 0 s.2.2 16 [some (.ref (wt_ad (wt_xw X) 77)), some (.int x1), some (.int x2), some (.int s.1), some (.int s.2.1), none] [] := by
  unfold wp_pg_press_B16 at h
  refine wt_iload hE wp_pg_press_d16 rfl ?_
  refine wt_sipush hE (312 : Int32) wp_pg_press_d18 wt_cs_312 ?_
  refine wt_icmp_ge hE 89 wp_pg_press_d21 rfl (fun c3 => ?_) (fun c3 => ?_)
  · have h := wt_ip c3 h
    refine wt_iload_n hE wp_pg_press_d89 rfl ?_
    cases h
    exact wt_iret hE hR wp_pg_press_d90
  · have h := wt_in c3 h
    refine wt_aload_n hE wp_pg_press_d24 rfl ?_
    refine wt_getr hE (r := 39) wt_lf_pg_23 (hD 77 (Nat.le_of_ble_eq_true rfl)) wt_L77 rfl wp_pg_press_d25 ?_
    refine wt_getr hE (r := 41) wt_lf_pg_77 (hD 39 (Nat.le_of_ble_eq_true rfl)) wt_L39 rfl wp_pg_press_d28 ?_
    refine wt_iload hE wp_pg_press_d31 rfl ?_
    obtain ⟨q4, hq4, h⟩ := wt_bi h
    refine wt_callSi hE [.ref (wt_ad (wt_xw X) 41), .int s.2.1] wt_lm_pg_46 wt_ya_ap_look (wp_ap_look_ok (wt_lnE wt_L41) (hD 41 (Nat.le_of_ble_eq_true rfl)) hq4) (by omega) rfl rfl (Nat.le_of_ble_eq_true rfl) (Nat.zero_le _) wp_pg_press_d33 (fun hbq4 => ?_)
    refine wt_iload_n hE wp_pg_press_d36 rfl ?_
    refine wt_icmp_ne hE 83 wp_pg_press_d37 rfl (fun c5 => ?_) (fun c5 => ?_)
    · have h := wt_in c5 h
      exact wp_pg_press_B83_ok hE hR hD hK16 h
    · have h := wt_ip c5 h
      refine wt_aload_n hE wp_pg_press_d40 rfl ?_
      refine wt_getr hE (r := 39) wt_lf_pg_23 (hD 77 (Nat.le_of_ble_eq_true rfl)) wt_L77 rfl wp_pg_press_d41 ?_
      refine wt_getr hE (r := 40) wt_lf_pg_60 (hD 39 (Nat.le_of_ble_eq_true rfl)) wt_L39 rfl wp_pg_press_d44 ?_
      refine wt_iload hE wp_pg_press_d47 rfl ?_
      obtain ⟨q6, hq6, h⟩ := wt_bi h
      refine wt_callSi hE [.ref (wt_ad (wt_xw X) 40), .int s.2.1] wt_lm_pg_46 wt_ya_ap_look (wp_ap_look_ok (wt_lnE wt_L40) (hD 40 (Nat.le_of_ble_eq_true rfl)) hq6) (by omega) rfl rfl (Nat.le_of_ble_eq_true rfl) (Nat.zero_le _) wp_pg_press_d49 (fun hbq6 => ?_)
      refine wt_iload_n hE wp_pg_press_d52 rfl ?_
      refine wt_isub hE wp_pg_press_d53 ?_
      refine wt_istore hE [some (.ref (wt_ad (wt_xw X) 77)), some (.int x1), some (.int x2), some (.int s.1), some (.int s.2.1), some (.int (q6.1 - x2))] wp_pg_press_d54 (Nat.le_of_ble_eq_true rfl) rfl ?_
      refine wt_aload_n hE wp_pg_press_d56 rfl ?_
      refine wt_getr hE (r := 39) wt_lf_pg_23 (hD 77 (Nat.le_of_ble_eq_true rfl)) wt_L77 rfl wp_pg_press_d57 ?_
      refine wt_getr hE (r := 40) wt_lf_pg_60 (hD 39 (Nat.le_of_ble_eq_true rfl)) wt_L39 rfl wp_pg_press_d60 ?_
      refine wt_iload hE wp_pg_press_d63 rfl ?_
      refine wt_iload hE wp_pg_press_d65 rfl ?_
      obtain ⟨q7, hq7, h⟩ := wt_bi h
      refine wt_callSv hE [.ref (wt_ad (wt_xw X) 40), .int s.2.1, .int (q6.1 - x2)] wt_lm_pg_80 wt_ya_ap_put (wp_ap_put_ok (wt_lnE wt_L40) (hD 40 (Nat.le_of_ble_eq_true rfl)) hq7) (by omega) rfl rfl (Nat.le_of_ble_eq_true rfl) (Nat.zero_le _) wp_pg_press_d67 ?_
      refine wt_iload_n hE wp_pg_press_d70 rfl ?_
      refine wt_iload hE wp_pg_press_d71 rfl ?_
      refine wt_if_ne hE 80 wp_pg_press_d73 rfl (fun c8 => ?_) (fun c8 => ?_)
      · have h := wt_in c8 h
        refine wt_iconst hE (0 : Int32) wp_pg_press_d80 wt_ci_0 ?_
        refine wt_wk [true, true, true, false, true, false] rfl ?_
        exact wp_pg_press_B81_ok hE hR hD hK16 h
      · have h := wt_ip c8 h
        refine wt_iconst hE (1 : Int32) wp_pg_press_d76 wt_ci_1 ?_
        refine wt_goto hE 81 wp_pg_press_d77 rfl ?_
        refine wt_wk [true, true, true, false, true, false] rfl ?_
        exact wp_pg_press_B81_ok hE hR hD hK16 h
noncomputable def wp_pg_press (n : Nat) (x1 : Int32) (x2 : Int32) (σ : wt_St) : Option (Int32 × wt_St) :=
  (wp_pg_leastLeftOn n x1 σ).bind fun q1 =>
  if x2 ≤ q1.1 then
    wt_it (wp_pg_press_B16 n x1 x2) n ((0 : Int32), (0 : Int32), q1.2)
  else
    some ((-1 : Int32), q1.2)
set_option maxRecDepth 100000 in
set_option maxHeartbeats 4000000 in
theorem wp_pg_press_ok {l : Launch} {w : wt_E} {n : Nat} {x1 : Int32} {x2 : Int32} (hD : ∀ i, i < 108 → wt_dom w i) {σ : wt_St} {q : Int32 × wt_St} (h : wp_pg_press n x1 x2 σ = some q) : wt_Ctr l w wt_y_pg_press prog_3_method_5_code 6 (some .int) 2 [.ref (wt_ad w 77), .int x1, .int x2] σ (some q.1) q.2 := by
  refine wt_ctr wt_pl_pg_press rfl (Nat.le_of_ble_eq_true rfl) [some (.ref (wt_ad w 77)), some (.int x1), some (.int x2), none, none, none] rfl ?_
  intro X hXl hXw hE hR
  subst hXl
  subst hXw
  have hE : wt_Ok X prog_3_method_5_code 6 "WornType$Pages" 2 0 := hE
  unfold wp_pg_press at h
  refine wt_aload_n hE wp_pg_press_d0 rfl ?_
  refine wt_iload_n hE wp_pg_press_d1 rfl ?_
  obtain ⟨q1, hq1, h⟩ := wt_bi h
  refine wt_callVi hE [.int x1] wt_lm_pg_87 wt_ya_pg_leastLeftOn (wp_pg_leastLeftOn_ok hD hq1) (by omega) (hD 77 (Nat.le_of_ble_eq_true rfl)) wt_L77 rfl rfl rfl (Nat.le_of_ble_eq_true rfl) (Nat.zero_le _) wp_pg_press_d2 (fun hbq1 => ?_)
  refine wt_iload_n hE wp_pg_press_d5 rfl ?_
  refine wt_icmp_ge hE 11 wp_pg_press_d6 rfl (fun c2 => ?_) (fun c2 => ?_)
  · have h := wt_ip c2 h
    refine wt_iconst hE (0 : Int32) wp_pg_press_d11 wt_ci_0 ?_
    refine wt_istore_n hE [some (.ref (wt_ad (wt_xw X) 77)), some (.int x1), some (.int x2), some (.int (0 : Int32)), none, none] wp_pg_press_d12 (by decide) rfl ?_
    refine wt_iconst hE (0 : Int32) wp_pg_press_d13 wt_ci_0 ?_
    refine wt_istore hE [some (.ref (wt_ad (wt_xw X) 77)), some (.int x1), some (.int x2), some (.int (0 : Int32)), some (.int (0 : Int32)), none] wp_pg_press_d14 (Nat.le_of_ble_eq_true rfl) rfl ?_
    exact wt_it_ind (fun z => wt_V X 0 z.2.2 16 [some (.ref (wt_ad (wt_xw X) 77)), some (.int x1), some (.int x2), some (.int z.1), some (.int z.2.1), none] []) (fun K hK z h => wp_pg_press_B16_ok hE hR hD hK h) n ((0 : Int32), (0 : Int32), q1.2) h
  · have h := wt_in c2 h
    refine wt_iconst hE (-1 : Int32) wp_pg_press_d9 wt_ci_m1 ?_
    cases h
    exact wt_iret hE hR wp_pg_press_d10
def wb13m3_prog_1_method_36_code_r1 : List (List Nat) := [27, 50, 182, 1, 99, 42, 27, 181, 0, 101, 42, 180, 0, 101, 172] :: []
def wb13m3_prog_1_method_36_code_r0 : List (List Nat) := [42, 180, 0, 101, 4, 100, 60, 27, 155, 0, 12, 27, 42, 180, 0, 50, 190, 161, 0, 5, 2, 172, 42, 180, 0, 46, 42, 180, 0, 50] :: wb13m3_prog_1_method_36_code_r1
set_option maxRecDepth 100000 in
theorem wb13m3_prog_1_method_36_code_c0 : wt_cs prog_1_method_36_code 0 wb13m3_prog_1_method_36_code_r0 := wt_cs_of (by decide +kernel)
theorem wb13m3_prog_1_method_36_code_c1 : wt_cs prog_1_method_36_code 30 wb13m3_prog_1_method_36_code_r1 := wt_cs_tl (m := 30) wb13m3_prog_1_method_36_code_c0 rfl rfl
theorem wp_ap_restore_d0 : decode prog_1_method_36_code 0 = .ok (.aload_n 0, 1) := wt_op42 wb13m3_prog_1_method_36_code_c0 0 rfl rfl
theorem wp_ap_restore_d1 : decode prog_1_method_36_code 1 = .ok (.getfield 101, 3) := wt_op180 wb13m3_prog_1_method_36_code_c0 1 rfl rfl rfl
theorem wp_ap_restore_d4 : decode prog_1_method_36_code 4 = .ok (.iconst 1, 1) := wt_op4 wb13m3_prog_1_method_36_code_c0 4 rfl rfl
theorem wp_ap_restore_d5 : decode prog_1_method_36_code 5 = .ok (.isub, 1) := wt_op100 wb13m3_prog_1_method_36_code_c0 5 rfl rfl
theorem wp_ap_restore_d6 : decode prog_1_method_36_code 6 = .ok (.istore_n 1, 1) := wt_op60 wb13m3_prog_1_method_36_code_c0 6 rfl rfl
theorem wp_ap_restore_d7 : decode prog_1_method_36_code 7 = .ok (.iload_n 1, 1) := wt_op27 wb13m3_prog_1_method_36_code_c0 7 rfl rfl
theorem wp_ap_restore_d8 : decode prog_1_method_36_code 8 = .ok (.ifCond .lt 12, 3) := wt_op155 wb13m3_prog_1_method_36_code_c0 8 rfl rfl rfl
theorem wp_ap_restore_d11 : decode prog_1_method_36_code 11 = .ok (.iload_n 1, 1) := wt_op27 wb13m3_prog_1_method_36_code_c0 11 rfl rfl
theorem wp_ap_restore_d12 : decode prog_1_method_36_code 12 = .ok (.aload_n 0, 1) := wt_op42 wb13m3_prog_1_method_36_code_c0 12 rfl rfl
theorem wp_ap_restore_d13 : decode prog_1_method_36_code 13 = .ok (.getfield 50, 3) := wt_op180 wb13m3_prog_1_method_36_code_c0 13 rfl rfl rfl
theorem wp_ap_restore_d16 : decode prog_1_method_36_code 16 = .ok (.arraylength, 1) := wt_op190 wb13m3_prog_1_method_36_code_c0 16 rfl rfl
theorem wp_ap_restore_d17 : decode prog_1_method_36_code 17 = .ok (.if_icmp .lt 5, 3) := wt_op161 wb13m3_prog_1_method_36_code_c0 17 rfl rfl rfl
theorem wp_ap_restore_d20 : decode prog_1_method_36_code 20 = .ok (.iconst (-1), 1) := wt_op2 wb13m3_prog_1_method_36_code_c0 20 rfl rfl
theorem wp_ap_restore_d21 : decode prog_1_method_36_code 21 = .ok (.ireturn, 1) := wt_op172 wb13m3_prog_1_method_36_code_c0 21 rfl rfl
theorem wp_ap_restore_d22 : decode prog_1_method_36_code 22 = .ok (.aload_n 0, 1) := wt_op42 wb13m3_prog_1_method_36_code_c0 22 rfl rfl
theorem wp_ap_restore_d23 : decode prog_1_method_36_code 23 = .ok (.getfield 46, 3) := wt_op180 wb13m3_prog_1_method_36_code_c0 23 rfl rfl rfl
theorem wp_ap_restore_d26 : decode prog_1_method_36_code 26 = .ok (.aload_n 0, 1) := wt_op42 wb13m3_prog_1_method_36_code_c0 26 rfl rfl
theorem wp_ap_restore_d27 : decode prog_1_method_36_code 27 = .ok (.getfield 50, 3) := wt_op180 wb13m3_prog_1_method_36_code_c0 27 rfl rfl rfl
theorem wp_ap_restore_d30 : decode prog_1_method_36_code 30 = .ok (.iload_n 1, 1) := wt_op27 wb13m3_prog_1_method_36_code_c1 0 rfl rfl
theorem wp_ap_restore_d31 : decode prog_1_method_36_code 31 = .ok (.aaload, 1) := wt_op50 wb13m3_prog_1_method_36_code_c1 1 rfl rfl
theorem wp_ap_restore_d32 : decode prog_1_method_36_code 32 = .ok (.invokevirtual 355, 3) := wt_op182 wb13m3_prog_1_method_36_code_c1 2 rfl rfl rfl
theorem wp_ap_restore_d35 : decode prog_1_method_36_code 35 = .ok (.aload_n 0, 1) := wt_op42 wb13m3_prog_1_method_36_code_c1 5 rfl rfl
theorem wp_ap_restore_d36 : decode prog_1_method_36_code 36 = .ok (.iload_n 1, 1) := wt_op27 wb13m3_prog_1_method_36_code_c1 6 rfl rfl
theorem wp_ap_restore_d37 : decode prog_1_method_36_code 37 = .ok (.putfield 101, 3) := wt_op181 wb13m3_prog_1_method_36_code_c1 7 rfl rfl rfl
theorem wp_ap_restore_d40 : decode prog_1_method_36_code 40 = .ok (.aload_n 0, 1) := wt_op42 wb13m3_prog_1_method_36_code_c1 10 rfl rfl
theorem wp_ap_restore_d41 : decode prog_1_method_36_code 41 = .ok (.getfield 101, 3) := wt_op180 wb13m3_prog_1_method_36_code_c1 11 rfl rfl rfl
theorem wp_ap_restore_d44 : decode prog_1_method_36_code 44 = .ok (.ireturn, 1) := wt_op172 wb13m3_prog_1_method_36_code_c1 14 rfl rfl
noncomputable def wp_ap_restore (n : Nat) (σ : wt_St) : Option (Int32 × wt_St) :=
  if ((wt_gf σ 0 14) - (1 : Int32)) < 0 then
    some ((-1 : Int32), σ)
  else
    if ((wt_gf σ 0 14) - (1 : Int32)) < (3 : Int32) then
      if ((wt_gf σ 0 14) - (1 : Int32)) < 0 ∨ 3 ≤ Int32.toNatClampNeg ((wt_gf σ 0 14) - (1 : Int32)) then none else
      (wp_st_become n 39 (49 + 9 * Int32.toNatClampNeg ((wt_gf σ 0 14) - (1 : Int32))) σ).bind fun q4 =>
      some ((wt_gf (wt_sf q4 0 14 ((wt_gf σ 0 14) - (1 : Int32))) 0 14), (wt_sf q4 0 14 ((wt_gf σ 0 14) - (1 : Int32))))
    else
      some ((-1 : Int32), σ)
set_option maxRecDepth 100000 in
set_option maxHeartbeats 4000000 in
theorem wp_ap_restore_ok {l : Launch} {w : wt_E} {n : Nat} (hD : ∀ i, i < 108 → wt_dom w i) {σ : wt_St} {q : Int32 × wt_St} (h : wp_ap_restore n σ = some q) : wt_Ctr l w wt_y_ap_restore prog_1_method_36_code 2 (some .int) 2 [.ref (wt_ad w 0)] σ (some q.1) q.2 := by
  refine wt_ctr wt_pl_ap_restore rfl (Nat.le_of_ble_eq_true rfl) [some (.ref (wt_ad w 0)), none] rfl ?_
  intro X hXl hXw hE hR
  subst hXl
  subst hXw
  have hE : wt_Ok X prog_1_method_36_code 2 "WornType" 2 0 := hE
  unfold wp_ap_restore at h
  refine wt_aload_n hE wp_ap_restore_d0 rfl ?_
  refine wt_geti hE wt_lf_ap_101 (hD 0 (Nat.le_of_ble_eq_true rfl)) wt_L0 rfl wp_ap_restore_d1 ?_
  refine wt_iconst hE (1 : Int32) wp_ap_restore_d4 wt_ci_1 ?_
  refine wt_isub hE wp_ap_restore_d5 ?_
  refine wt_istore_n hE [some (.ref (wt_ad (wt_xw X) 0)), some (.int ((wt_gf σ 0 14) - (1 : Int32)))] wp_ap_restore_d6 (by decide) rfl ?_
  refine wt_iload_n hE wp_ap_restore_d7 rfl ?_
  refine wt_if_lt hE 20 wp_ap_restore_d8 rfl (fun c1 => ?_) (fun c1 => ?_)
  · have h := wt_ip c1 h
    refine wt_iconst hE (-1 : Int32) wp_ap_restore_d20 wt_ci_m1 ?_
    cases h
    exact wt_iret hE hR wp_ap_restore_d21
  · have h := wt_in c1 h
    refine wt_iload_n hE wp_ap_restore_d11 rfl ?_
    refine wt_aload_n hE wp_ap_restore_d12 rfl ?_
    refine wt_getr hE (r := 48) wt_lf_ap_50 (hD 0 (Nat.le_of_ble_eq_true rfl)) wt_L0 rfl wp_ap_restore_d13 ?_
    refine wt_alen2 hE (3 : Int32) (hD 48 (Nat.le_of_ble_eq_true rfl)) wt_L48 rfl wp_ap_restore_d16 ?_
    refine wt_icmp_lt hE 22 wp_ap_restore_d17 rfl (fun c2 => ?_) (fun c2 => ?_)
    · have h := wt_ip c2 h
      refine wt_aload_n hE wp_ap_restore_d22 rfl ?_
      refine wt_getr hE (r := 39) wt_lf_ap_46 (hD 0 (Nat.le_of_ble_eq_true rfl)) wt_L0 rfl wp_ap_restore_d23 ?_
      refine wt_aload_n hE wp_ap_restore_d26 rfl ?_
      refine wt_getr hE (r := 48) wt_lf_ap_50 (hD 0 (Nat.le_of_ble_eq_true rfl)) wt_L0 rfl wp_ap_restore_d27 ?_
      refine wt_iload_n hE wp_ap_restore_d30 rfl ?_
      obtain ⟨g3, h⟩ := wt_gd h
      have lg3 := wt_lt g3
      refine wt_aald2 hE (hD 48 (Nat.le_of_ble_eq_true rfl)) wt_L48 g3 wp_ap_restore_d31 ?_
      obtain ⟨q4, hq4, h⟩ := wt_bi h
      refine wt_callVv hE [.ref (wt_ad (wt_xw X) ((49 + 9 * Int32.toNatClampNeg ((wt_gf σ 0 14) - (1 : Int32)))))] wt_lm_ap_355 wt_ya_st_become (wp_st_become_ok wt_isState_39 (fun j hj => hD (39 + j) (by omega)) (wt_imS lg3) (fun j hj => hD _ (by omega)) hq4) (by omega) (hD 39 (Nat.le_of_ble_eq_true rfl)) wt_L39 rfl rfl rfl (Nat.le_of_ble_eq_true rfl) (Nat.zero_le _) wp_ap_restore_d32 ?_
      refine wt_aload_n hE wp_ap_restore_d35 rfl ?_
      refine wt_iload_n hE wp_ap_restore_d36 rfl ?_
      refine wt_puti hE wt_lf_ap_101 (hD 0 (Nat.le_of_ble_eq_true rfl)) wt_L0 rfl (fun q hq => by cases hq; rfl) wp_ap_restore_d37 ?_
      refine wt_aload_n hE wp_ap_restore_d40 rfl ?_
      refine wt_geti hE wt_lf_ap_101 (hD 0 (Nat.le_of_ble_eq_true rfl)) wt_L0 rfl wp_ap_restore_d41 ?_
      cases h
      exact wt_iret hE hR wp_ap_restore_d44
    · have h := wt_in c2 h
      refine wt_iconst hE (-1 : Int32) wp_ap_restore_d20 wt_ci_m1 ?_
      cases h
      exact wt_iret hE hR wp_ap_restore_d21
def wb13m3_prog_3_method_13_code_r0 : List (List Nat) := [3, 60, 27, 7, 162, 0, 19, 42, 27, 182, 0, 50, 154, 0, 5, 27, 172, 132, 1, 1, 167, 255, 238, 2, 172] :: []
set_option maxRecDepth 100000 in
theorem wb13m3_prog_3_method_13_code_c0 : wt_cs prog_3_method_13_code 0 wb13m3_prog_3_method_13_code_r0 := wt_cs_of (by decide +kernel)
theorem wp_pg_firstFree_d0 : decode prog_3_method_13_code 0 = .ok (.iconst 0, 1) := wt_op3 wb13m3_prog_3_method_13_code_c0 0 rfl rfl
theorem wp_pg_firstFree_d1 : decode prog_3_method_13_code 1 = .ok (.istore_n 1, 1) := wt_op60 wb13m3_prog_3_method_13_code_c0 1 rfl rfl
theorem wp_pg_firstFree_d2 : decode prog_3_method_13_code 2 = .ok (.iload_n 1, 1) := wt_op27 wb13m3_prog_3_method_13_code_c0 2 rfl rfl
theorem wp_pg_firstFree_d3 : decode prog_3_method_13_code 3 = .ok (.iconst 4, 1) := wt_op7 wb13m3_prog_3_method_13_code_c0 3 rfl rfl
theorem wp_pg_firstFree_d4 : decode prog_3_method_13_code 4 = .ok (.if_icmp .ge 19, 3) := wt_op162 wb13m3_prog_3_method_13_code_c0 4 rfl rfl rfl
theorem wp_pg_firstFree_d7 : decode prog_3_method_13_code 7 = .ok (.aload_n 0, 1) := wt_op42 wb13m3_prog_3_method_13_code_c0 7 rfl rfl
theorem wp_pg_firstFree_d8 : decode prog_3_method_13_code 8 = .ok (.iload_n 1, 1) := wt_op27 wb13m3_prog_3_method_13_code_c0 8 rfl rfl
theorem wp_pg_firstFree_d9 : decode prog_3_method_13_code 9 = .ok (.invokevirtual 50, 3) := wt_op182 wb13m3_prog_3_method_13_code_c0 9 rfl rfl rfl
theorem wp_pg_firstFree_d12 : decode prog_3_method_13_code 12 = .ok (.ifCond .ne 5, 3) := wt_op154 wb13m3_prog_3_method_13_code_c0 12 rfl rfl rfl
theorem wp_pg_firstFree_d15 : decode prog_3_method_13_code 15 = .ok (.iload_n 1, 1) := wt_op27 wb13m3_prog_3_method_13_code_c0 15 rfl rfl
theorem wp_pg_firstFree_d16 : decode prog_3_method_13_code 16 = .ok (.ireturn, 1) := wt_op172 wb13m3_prog_3_method_13_code_c0 16 rfl rfl
theorem wp_pg_firstFree_d17 : decode prog_3_method_13_code 17 = .ok (.iinc 1 1, 3) := wt_op132 wb13m3_prog_3_method_13_code_c0 17 rfl rfl rfl
theorem wp_pg_firstFree_d20 : decode prog_3_method_13_code 20 = .ok (.goto (-18), 3) := wt_op167 wb13m3_prog_3_method_13_code_c0 20 rfl rfl rfl
theorem wp_pg_firstFree_d23 : decode prog_3_method_13_code 23 = .ok (.iconst (-1), 1) := wt_op2 wb13m3_prog_3_method_13_code_c0 23 rfl rfl
theorem wp_pg_firstFree_d24 : decode prog_3_method_13_code 24 = .ok (.ireturn, 1) := wt_op172 wb13m3_prog_3_method_13_code_c0 24 rfl rfl
noncomputable def wp_pg_firstFree_B2 (n : Nat) (K2 : Int32 × wt_St → Option (Int32 × wt_St)) (s : Int32 × wt_St) : Option (Int32 × wt_St) :=
  if (4 : Int32) ≤ s.1 then
    some ((-1 : Int32), s.2)
  else
    (wp_pg_stands n s.1 s.2).bind fun q2 =>
    if q2.1 = 0 then
      some (s.1, q2.2)
    else
      K2 ((s.1 + (1 : Int32)), q2.2)
set_option maxRecDepth 100000 in
set_option maxHeartbeats 4000000 in
theorem wp_pg_firstFree_B2_ok  {X : wt_X} {n : Nat} {res : Int32 × wt_St} (hE : wt_Ok X prog_3_method_13_code 2 "WornType$Pages" 2 0) (hR : wt_Rt X (some .int) (some res.1) res.2) (hD : ∀ i, i < 108 → wt_dom (wt_xw X) i)  {K2 : Int32 × wt_St → Option (Int32 × wt_St)} (hK2 : ∀ s : Int32 × wt_St, K2 s = some res → wt_V X 0 s.2 2 [some (.ref (wt_ad (wt_xw X) 77)), some (.int s.1)] []) {s : Int32 × wt_St} (h : wp_pg_firstFree_B2 n K2 s = some res) : wt_V X 0 s.2 2 [some (.ref (wt_ad (wt_xw X) 77)), some (.int s.1)] [] := by
  unfold wp_pg_firstFree_B2 at h
  refine wt_iload_n hE wp_pg_firstFree_d2 rfl ?_
  refine wt_iconst hE (4 : Int32) wp_pg_firstFree_d3 wt_ci_4 ?_
  refine wt_icmp_ge hE 23 wp_pg_firstFree_d4 rfl (fun c1 => ?_) (fun c1 => ?_)
  · have h := wt_ip c1 h
    refine wt_iconst hE (-1 : Int32) wp_pg_firstFree_d23 wt_ci_m1 ?_
    cases h
    exact wt_iret hE hR wp_pg_firstFree_d24
  · have h := wt_in c1 h
    refine wt_aload_n hE wp_pg_firstFree_d7 rfl ?_
    refine wt_iload_n hE wp_pg_firstFree_d8 rfl ?_
    obtain ⟨q2, hq2, h⟩ := wt_bi h
    refine wt_callVi hE [.int s.1] wt_lm_pg_50 wt_ya_pg_stands (wp_pg_stands_ok hD hq2) (by omega) (hD 77 (Nat.le_of_ble_eq_true rfl)) wt_L77 rfl rfl rfl (Nat.le_of_ble_eq_true rfl) (Nat.zero_le _) wp_pg_firstFree_d9 (fun hbq2 => ?_)
    refine wt_if_ne hE 17 wp_pg_firstFree_d12 rfl (fun c3 => ?_) (fun c3 => ?_)
    · have h := wt_in c3 h
      refine wt_iinc hE (s.1 + (1 : Int32)) [some (.ref (wt_ad (wt_xw X) 77)), some (.int (s.1 + (1 : Int32)))] wp_pg_firstFree_d17 (by decide) rfl rfl rfl ?_
      refine wt_goto hE 2 wp_pg_firstFree_d20 rfl ?_
      exact hK2 ((s.1 + (1 : Int32)), q2.2) h
    · have h := wt_ip c3 h
      refine wt_iload_n hE wp_pg_firstFree_d15 rfl ?_
      cases h
      exact wt_iret hE hR wp_pg_firstFree_d16
noncomputable def wp_pg_firstFree (n : Nat) (σ : wt_St) : Option (Int32 × wt_St) :=
  wt_it (wp_pg_firstFree_B2 n) n ((0 : Int32), σ)
set_option maxRecDepth 100000 in
set_option maxHeartbeats 4000000 in
theorem wp_pg_firstFree_ok {l : Launch} {w : wt_E} {n : Nat} (hD : ∀ i, i < 108 → wt_dom w i) {σ : wt_St} {q : Int32 × wt_St} (h : wp_pg_firstFree n σ = some q) : wt_Ctr l w wt_y_pg_firstFree prog_3_method_13_code 2 (some .int) 2 [.ref (wt_ad w 77)] σ (some q.1) q.2 := by
  refine wt_ctr wt_pl_pg_firstFree rfl (Nat.le_of_ble_eq_true rfl) [some (.ref (wt_ad w 77)), none] rfl ?_
  intro X hXl hXw hE hR
  subst hXl
  subst hXw
  have hE : wt_Ok X prog_3_method_13_code 2 "WornType$Pages" 2 0 := hE
  unfold wp_pg_firstFree at h
  refine wt_iconst hE (0 : Int32) wp_pg_firstFree_d0 wt_ci_0 ?_
  refine wt_istore_n hE [some (.ref (wt_ad (wt_xw X) 77)), some (.int (0 : Int32))] wp_pg_firstFree_d1 (by decide) rfl ?_
  exact wt_it_ind (fun z => wt_V X 0 z.2 2 [some (.ref (wt_ad (wt_xw X) 77)), some (.int z.1)] []) (fun K hK z h => wp_pg_firstFree_B2_ok hE hR hD hK h) n ((0 : Int32), σ) h
def wb13m3_prog_3_method_4_code_r5 : List (List Nat) := [180, 0, 41, 29, 27, 184, 0, 80, 29, 172] :: []
def wb13m3_prog_3_method_4_code_r4 : List (List Nat) := [180, 0, 23, 180, 0, 84, 21, 6, 21, 5, 184, 0, 80, 132, 5, 1, 167, 255, 194, 132, 4, 1, 167, 255, 175, 42, 180, 0, 23] :: wb13m3_prog_3_method_4_code_r5
def wb13m3_prog_3_method_4_code_r3 : List (List Nat) := [28, 42, 180, 0, 23, 180, 0, 60, 3, 182, 0, 73, 54, 6, 42, 180, 0, 23, 180, 0, 77, 21, 6, 29, 184, 0, 80, 42] :: wb13m3_prog_3_method_4_code_r4
def wb13m3_prog_3_method_4_code_r2 : List (List Nat) := [180, 0, 31, 190, 162, 0, 77, 3, 54, 5, 21, 5, 42, 180, 0, 31, 21, 4, 46, 162, 0, 56, 42, 180, 0, 27, 21, 4] :: wb13m3_prog_3_method_4_code_r3
def wb13m3_prog_3_method_4_code_r1 : List (List Nat) := [182, 0, 63, 2, 159, 0, 5, 2, 172, 42, 182, 0, 69, 62, 29, 2, 160, 0, 6, 16, 254, 172, 3, 54, 4, 21, 4, 42] :: wb13m3_prog_3_method_4_code_r2
def wb13m3_prog_3_method_4_code_r0 : List (List Nat) := [42, 180, 0, 19, 27, 42, 180, 0, 31, 182, 0, 54, 42, 180, 0, 27, 42, 180, 0, 31, 28, 42, 180, 0, 23, 180, 0, 60] :: wb13m3_prog_3_method_4_code_r1
set_option maxRecDepth 100000 in
theorem wb13m3_prog_3_method_4_code_c0 : wt_cs prog_3_method_4_code 0 wb13m3_prog_3_method_4_code_r0 := wt_cs_of (by decide +kernel)
theorem wb13m3_prog_3_method_4_code_c1 : wt_cs prog_3_method_4_code 28 wb13m3_prog_3_method_4_code_r1 := wt_cs_tl (m := 28) wb13m3_prog_3_method_4_code_c0 rfl rfl
theorem wb13m3_prog_3_method_4_code_c2 : wt_cs prog_3_method_4_code 56 wb13m3_prog_3_method_4_code_r2 := wt_cs_tl (m := 28) wb13m3_prog_3_method_4_code_c1 rfl rfl
theorem wb13m3_prog_3_method_4_code_c3 : wt_cs prog_3_method_4_code 84 wb13m3_prog_3_method_4_code_r3 := wt_cs_tl (m := 28) wb13m3_prog_3_method_4_code_c2 rfl rfl
theorem wb13m3_prog_3_method_4_code_c4 : wt_cs prog_3_method_4_code 112 wb13m3_prog_3_method_4_code_r4 := wt_cs_tl (m := 28) wb13m3_prog_3_method_4_code_c3 rfl rfl
theorem wb13m3_prog_3_method_4_code_c5 : wt_cs prog_3_method_4_code 141 wb13m3_prog_3_method_4_code_r5 := wt_cs_tl (m := 29) wb13m3_prog_3_method_4_code_c4 rfl rfl
theorem wp_pg_stand_d0 : decode prog_3_method_4_code 0 = .ok (.aload_n 0, 1) := wt_op42 wb13m3_prog_3_method_4_code_c0 0 rfl rfl
theorem wp_pg_stand_d1 : decode prog_3_method_4_code 1 = .ok (.getfield 19, 3) := wt_op180 wb13m3_prog_3_method_4_code_c0 1 rfl rfl rfl
theorem wp_pg_stand_d4 : decode prog_3_method_4_code 4 = .ok (.iload_n 1, 1) := wt_op27 wb13m3_prog_3_method_4_code_c0 4 rfl rfl
theorem wp_pg_stand_d5 : decode prog_3_method_4_code 5 = .ok (.aload_n 0, 1) := wt_op42 wb13m3_prog_3_method_4_code_c0 5 rfl rfl
theorem wp_pg_stand_d6 : decode prog_3_method_4_code 6 = .ok (.getfield 31, 3) := wt_op180 wb13m3_prog_3_method_4_code_c0 6 rfl rfl rfl
theorem wp_pg_stand_d9 : decode prog_3_method_4_code 9 = .ok (.invokevirtual 54, 3) := wt_op182 wb13m3_prog_3_method_4_code_c0 9 rfl rfl rfl
theorem wp_pg_stand_d12 : decode prog_3_method_4_code 12 = .ok (.aload_n 0, 1) := wt_op42 wb13m3_prog_3_method_4_code_c0 12 rfl rfl
theorem wp_pg_stand_d13 : decode prog_3_method_4_code 13 = .ok (.getfield 27, 3) := wt_op180 wb13m3_prog_3_method_4_code_c0 13 rfl rfl rfl
theorem wp_pg_stand_d16 : decode prog_3_method_4_code 16 = .ok (.aload_n 0, 1) := wt_op42 wb13m3_prog_3_method_4_code_c0 16 rfl rfl
theorem wp_pg_stand_d17 : decode prog_3_method_4_code 17 = .ok (.getfield 31, 3) := wt_op180 wb13m3_prog_3_method_4_code_c0 17 rfl rfl rfl
theorem wp_pg_stand_d20 : decode prog_3_method_4_code 20 = .ok (.iload_n 2, 1) := wt_op28 wb13m3_prog_3_method_4_code_c0 20 rfl rfl
theorem wp_pg_stand_d21 : decode prog_3_method_4_code 21 = .ok (.aload_n 0, 1) := wt_op42 wb13m3_prog_3_method_4_code_c0 21 rfl rfl
theorem wp_pg_stand_d22 : decode prog_3_method_4_code 22 = .ok (.getfield 23, 3) := wt_op180 wb13m3_prog_3_method_4_code_c0 22 rfl rfl rfl
theorem wp_pg_stand_d25 : decode prog_3_method_4_code 25 = .ok (.getfield 60, 3) := wt_op180 wb13m3_prog_3_method_4_code_c0 25 rfl rfl rfl
theorem wp_pg_stand_d28 : decode prog_3_method_4_code 28 = .ok (.invokevirtual 63, 3) := wt_op182 wb13m3_prog_3_method_4_code_c1 0 rfl rfl rfl
theorem wp_pg_stand_d31 : decode prog_3_method_4_code 31 = .ok (.iconst (-1), 1) := wt_op2 wb13m3_prog_3_method_4_code_c1 3 rfl rfl
theorem wp_pg_stand_d32 : decode prog_3_method_4_code 32 = .ok (.if_icmp .eq 5, 3) := wt_op159 wb13m3_prog_3_method_4_code_c1 4 rfl rfl rfl
theorem wp_pg_stand_d35 : decode prog_3_method_4_code 35 = .ok (.iconst (-1), 1) := wt_op2 wb13m3_prog_3_method_4_code_c1 7 rfl rfl
theorem wp_pg_stand_d36 : decode prog_3_method_4_code 36 = .ok (.ireturn, 1) := wt_op172 wb13m3_prog_3_method_4_code_c1 8 rfl rfl
theorem wp_pg_stand_d37 : decode prog_3_method_4_code 37 = .ok (.aload_n 0, 1) := wt_op42 wb13m3_prog_3_method_4_code_c1 9 rfl rfl
theorem wp_pg_stand_d38 : decode prog_3_method_4_code 38 = .ok (.invokevirtual 69, 3) := wt_op182 wb13m3_prog_3_method_4_code_c1 10 rfl rfl rfl
theorem wp_pg_stand_d41 : decode prog_3_method_4_code 41 = .ok (.istore_n 3, 1) := wt_op62 wb13m3_prog_3_method_4_code_c1 13 rfl rfl
theorem wp_pg_stand_d42 : decode prog_3_method_4_code 42 = .ok (.iload_n 3, 1) := wt_op29 wb13m3_prog_3_method_4_code_c1 14 rfl rfl
theorem wp_pg_stand_d43 : decode prog_3_method_4_code 43 = .ok (.iconst (-1), 1) := wt_op2 wb13m3_prog_3_method_4_code_c1 15 rfl rfl
theorem wp_pg_stand_d44 : decode prog_3_method_4_code 44 = .ok (.if_icmp .ne 6, 3) := wt_op160 wb13m3_prog_3_method_4_code_c1 16 rfl rfl rfl
theorem wp_pg_stand_d47 : decode prog_3_method_4_code 47 = .ok (.bipush (-2), 2) := wt_op16 wb13m3_prog_3_method_4_code_c1 19 rfl rfl rfl
theorem wp_pg_stand_d49 : decode prog_3_method_4_code 49 = .ok (.ireturn, 1) := wt_op172 wb13m3_prog_3_method_4_code_c1 21 rfl rfl
theorem wp_pg_stand_d50 : decode prog_3_method_4_code 50 = .ok (.iconst 0, 1) := wt_op3 wb13m3_prog_3_method_4_code_c1 22 rfl rfl
theorem wp_pg_stand_d51 : decode prog_3_method_4_code 51 = .ok (.istore 4, 2) := wt_op54 wb13m3_prog_3_method_4_code_c1 23 rfl rfl
theorem wp_pg_stand_d53 : decode prog_3_method_4_code 53 = .ok (.iload 4, 2) := wt_op21 wb13m3_prog_3_method_4_code_c1 25 rfl rfl
theorem wp_pg_stand_d55 : decode prog_3_method_4_code 55 = .ok (.aload_n 0, 1) := wt_op42 wb13m3_prog_3_method_4_code_c1 27 rfl rfl
theorem wp_pg_stand_d56 : decode prog_3_method_4_code 56 = .ok (.getfield 31, 3) := wt_op180 wb13m3_prog_3_method_4_code_c2 0 rfl rfl rfl
theorem wp_pg_stand_d59 : decode prog_3_method_4_code 59 = .ok (.arraylength, 1) := wt_op190 wb13m3_prog_3_method_4_code_c2 3 rfl rfl
theorem wp_pg_stand_d60 : decode prog_3_method_4_code 60 = .ok (.if_icmp .ge 77, 3) := wt_op162 wb13m3_prog_3_method_4_code_c2 4 rfl rfl rfl
theorem wp_pg_stand_d63 : decode prog_3_method_4_code 63 = .ok (.iconst 0, 1) := wt_op3 wb13m3_prog_3_method_4_code_c2 7 rfl rfl
theorem wp_pg_stand_d64 : decode prog_3_method_4_code 64 = .ok (.istore 5, 2) := wt_op54 wb13m3_prog_3_method_4_code_c2 8 rfl rfl
theorem wp_pg_stand_d66 : decode prog_3_method_4_code 66 = .ok (.iload 5, 2) := wt_op21 wb13m3_prog_3_method_4_code_c2 10 rfl rfl
theorem wp_pg_stand_d68 : decode prog_3_method_4_code 68 = .ok (.aload_n 0, 1) := wt_op42 wb13m3_prog_3_method_4_code_c2 12 rfl rfl
theorem wp_pg_stand_d69 : decode prog_3_method_4_code 69 = .ok (.getfield 31, 3) := wt_op180 wb13m3_prog_3_method_4_code_c2 13 rfl rfl rfl
theorem wp_pg_stand_d72 : decode prog_3_method_4_code 72 = .ok (.iload 4, 2) := wt_op21 wb13m3_prog_3_method_4_code_c2 16 rfl rfl
theorem wp_pg_stand_d74 : decode prog_3_method_4_code 74 = .ok (.iaload, 1) := wt_op46 wb13m3_prog_3_method_4_code_c2 18 rfl rfl
theorem wp_pg_stand_d75 : decode prog_3_method_4_code 75 = .ok (.if_icmp .ge 56, 3) := wt_op162 wb13m3_prog_3_method_4_code_c2 19 rfl rfl rfl
theorem wp_pg_stand_d78 : decode prog_3_method_4_code 78 = .ok (.aload_n 0, 1) := wt_op42 wb13m3_prog_3_method_4_code_c2 22 rfl rfl
theorem wp_pg_stand_d79 : decode prog_3_method_4_code 79 = .ok (.getfield 27, 3) := wt_op180 wb13m3_prog_3_method_4_code_c2 23 rfl rfl rfl
theorem wp_pg_stand_d82 : decode prog_3_method_4_code 82 = .ok (.iload 4, 2) := wt_op21 wb13m3_prog_3_method_4_code_c2 26 rfl rfl
theorem wp_pg_stand_d84 : decode prog_3_method_4_code 84 = .ok (.iload_n 2, 1) := wt_op28 wb13m3_prog_3_method_4_code_c3 0 rfl rfl
theorem wp_pg_stand_d85 : decode prog_3_method_4_code 85 = .ok (.aload_n 0, 1) := wt_op42 wb13m3_prog_3_method_4_code_c3 1 rfl rfl
theorem wp_pg_stand_d86 : decode prog_3_method_4_code 86 = .ok (.getfield 23, 3) := wt_op180 wb13m3_prog_3_method_4_code_c3 2 rfl rfl rfl
theorem wp_pg_stand_d89 : decode prog_3_method_4_code 89 = .ok (.getfield 60, 3) := wt_op180 wb13m3_prog_3_method_4_code_c3 5 rfl rfl rfl
theorem wp_pg_stand_d92 : decode prog_3_method_4_code 92 = .ok (.iconst 0, 1) := wt_op3 wb13m3_prog_3_method_4_code_c3 8 rfl rfl
theorem wp_pg_stand_d93 : decode prog_3_method_4_code 93 = .ok (.invokevirtual 73, 3) := wt_op182 wb13m3_prog_3_method_4_code_c3 9 rfl rfl rfl
theorem wp_pg_stand_d96 : decode prog_3_method_4_code 96 = .ok (.istore 6, 2) := wt_op54 wb13m3_prog_3_method_4_code_c3 12 rfl rfl
theorem wp_pg_stand_d98 : decode prog_3_method_4_code 98 = .ok (.aload_n 0, 1) := wt_op42 wb13m3_prog_3_method_4_code_c3 14 rfl rfl
theorem wp_pg_stand_d99 : decode prog_3_method_4_code 99 = .ok (.getfield 23, 3) := wt_op180 wb13m3_prog_3_method_4_code_c3 15 rfl rfl rfl
theorem wp_pg_stand_d102 : decode prog_3_method_4_code 102 = .ok (.getfield 77, 3) := wt_op180 wb13m3_prog_3_method_4_code_c3 18 rfl rfl rfl
theorem wp_pg_stand_d105 : decode prog_3_method_4_code 105 = .ok (.iload 6, 2) := wt_op21 wb13m3_prog_3_method_4_code_c3 21 rfl rfl
theorem wp_pg_stand_d107 : decode prog_3_method_4_code 107 = .ok (.iload_n 3, 1) := wt_op29 wb13m3_prog_3_method_4_code_c3 23 rfl rfl
theorem wp_pg_stand_d108 : decode prog_3_method_4_code 108 = .ok (.invokestatic 80, 3) := wt_op184 wb13m3_prog_3_method_4_code_c3 24 rfl rfl rfl
theorem wp_pg_stand_d111 : decode prog_3_method_4_code 111 = .ok (.aload_n 0, 1) := wt_op42 wb13m3_prog_3_method_4_code_c3 27 rfl rfl
theorem wp_pg_stand_d112 : decode prog_3_method_4_code 112 = .ok (.getfield 23, 3) := wt_op180 wb13m3_prog_3_method_4_code_c4 0 rfl rfl rfl
theorem wp_pg_stand_d115 : decode prog_3_method_4_code 115 = .ok (.getfield 84, 3) := wt_op180 wb13m3_prog_3_method_4_code_c4 3 rfl rfl rfl
theorem wp_pg_stand_d118 : decode prog_3_method_4_code 118 = .ok (.iload 6, 2) := wt_op21 wb13m3_prog_3_method_4_code_c4 6 rfl rfl
theorem wp_pg_stand_d120 : decode prog_3_method_4_code 120 = .ok (.iload 5, 2) := wt_op21 wb13m3_prog_3_method_4_code_c4 8 rfl rfl
theorem wp_pg_stand_d122 : decode prog_3_method_4_code 122 = .ok (.invokestatic 80, 3) := wt_op184 wb13m3_prog_3_method_4_code_c4 10 rfl rfl rfl
theorem wp_pg_stand_d125 : decode prog_3_method_4_code 125 = .ok (.iinc 5 1, 3) := wt_op132 wb13m3_prog_3_method_4_code_c4 13 rfl rfl rfl
theorem wp_pg_stand_d128 : decode prog_3_method_4_code 128 = .ok (.goto (-62), 3) := wt_op167 wb13m3_prog_3_method_4_code_c4 16 rfl rfl rfl
theorem wp_pg_stand_d131 : decode prog_3_method_4_code 131 = .ok (.iinc 4 1, 3) := wt_op132 wb13m3_prog_3_method_4_code_c4 19 rfl rfl rfl
theorem wp_pg_stand_d134 : decode prog_3_method_4_code 134 = .ok (.goto (-81), 3) := wt_op167 wb13m3_prog_3_method_4_code_c4 22 rfl rfl rfl
theorem wp_pg_stand_d137 : decode prog_3_method_4_code 137 = .ok (.aload_n 0, 1) := wt_op42 wb13m3_prog_3_method_4_code_c4 25 rfl rfl
theorem wp_pg_stand_d138 : decode prog_3_method_4_code 138 = .ok (.getfield 23, 3) := wt_op180 wb13m3_prog_3_method_4_code_c4 26 rfl rfl rfl
theorem wp_pg_stand_d141 : decode prog_3_method_4_code 141 = .ok (.getfield 41, 3) := wt_op180 wb13m3_prog_3_method_4_code_c5 0 rfl rfl rfl
theorem wp_pg_stand_d144 : decode prog_3_method_4_code 144 = .ok (.iload_n 3, 1) := wt_op29 wb13m3_prog_3_method_4_code_c5 3 rfl rfl
theorem wp_pg_stand_d145 : decode prog_3_method_4_code 145 = .ok (.iload_n 1, 1) := wt_op27 wb13m3_prog_3_method_4_code_c5 4 rfl rfl
theorem wp_pg_stand_d146 : decode prog_3_method_4_code 146 = .ok (.invokestatic 80, 3) := wt_op184 wb13m3_prog_3_method_4_code_c5 5 rfl rfl rfl
theorem wp_pg_stand_d149 : decode prog_3_method_4_code 149 = .ok (.iload_n 3, 1) := wt_op29 wb13m3_prog_3_method_4_code_c5 8 rfl rfl
theorem wp_pg_stand_d150 : decode prog_3_method_4_code 150 = .ok (.ireturn, 1) := wt_op172 wb13m3_prog_3_method_4_code_c5 9 rfl rfl
noncomputable def wp_pg_stand_B66 (n : Nat) (x1 : Int32) (x2 : Int32) (x3 : Int32) (x4 : Int32) (K53 : Int32 × wt_St → Option (Int32 × wt_St)) (K66 : Int32 × wt_St → Option (Int32 × wt_St)) (s : Int32 × wt_St) : Option (Int32 × wt_St) :=
  if x4 < 0 ∨ 26 ≤ Int32.toNatClampNeg x4 then none else
  if (wt_ga s.2 78 (Int32.toNatClampNeg x4)) ≤ s.1 then
    K53 ((x4 + (1 : Int32)), s.2)
  else
    (wp_sk_choose n 40 x4 x2 (0 : Int32) s.2).bind fun q10 =>
    (wp_ap_put n 41 q10.1 x3 q10.2).bind fun q11 =>
    (wp_ap_put n 42 q10.1 s.1 q11).bind fun q12 =>
    K66 ((s.1 + (1 : Int32)), q12)
set_option maxRecDepth 100000 in
set_option maxHeartbeats 4000000 in
theorem wp_pg_stand_B66_ok  {x1 : Int32} {x2 : Int32} {x3 : Int32} {x4 : Int32} {X : wt_X} {n : Nat} {res : Int32 × wt_St} (hE : wt_Ok X prog_3_method_4_code 7 "WornType$Pages" 4 0) (hR : wt_Rt X (some .int) (some res.1) res.2) (hD : ∀ i, i < 108 → wt_dom (wt_xw X) i)  {K53 : Int32 × wt_St → Option (Int32 × wt_St)} (hK53 : ∀ s : Int32 × wt_St, K53 s = some res → wt_V X 0 s.2 53 [some (.ref (wt_ad (wt_xw X) 77)), some (.int x1), some (.int x2), some (.int x3), some (.int s.1), none, none] []) {K66 : Int32 × wt_St → Option (Int32 × wt_St)} (hK66 : ∀ s : Int32 × wt_St, K66 s = some res → wt_V X 0 s.2 66 [some (.ref (wt_ad (wt_xw X) 77)), some (.int x1), some (.int x2), some (.int x3), some (.int x4), some (.int s.1), none] []) {s : Int32 × wt_St} (h : wp_pg_stand_B66 n x1 x2 x3 x4 K53 K66 s = some res) : wt_V X 0 s.2 66 [some (.ref (wt_ad (wt_xw X) 77)), some (.int x1), some (.int x2), some (.int x3), some (.int x4), some (.int s.1), none] [] := by
  unfold wp_pg_stand_B66 at h
  refine wt_iload hE wp_pg_stand_d66 rfl ?_
  refine wt_aload_n hE wp_pg_stand_d68 rfl ?_
  refine wt_getr hE (r := 78) wt_lf_pg_31 (hD 77 (Nat.le_of_ble_eq_true rfl)) wt_L77 rfl wp_pg_stand_d69 ?_
  refine wt_iload hE wp_pg_stand_d72 rfl ?_
  obtain ⟨g8, h⟩ := wt_gd h
  refine wt_iald hE (hD 78 (Nat.le_of_ble_eq_true rfl)) wt_L78 g8 wp_pg_stand_d74 ?_
  refine wt_icmp_ge hE 131 wp_pg_stand_d75 rfl (fun c9 => ?_) (fun c9 => ?_)
  · have h := wt_ip c9 h
    refine wt_iinc hE (x4 + (1 : Int32)) [some (.ref (wt_ad (wt_xw X) 77)), some (.int x1), some (.int x2), some (.int x3), some (.int (x4 + (1 : Int32))), some (.int s.1), none] wp_pg_stand_d131 (by decide) rfl rfl rfl ?_
    refine wt_goto hE 53 wp_pg_stand_d134 rfl ?_
    refine wt_wk [true, true, true, true, true, false, true] rfl ?_
    exact hK53 ((x4 + (1 : Int32)), s.2) h
  · have h := wt_in c9 h
    refine wt_aload_n hE wp_pg_stand_d78 rfl ?_
    refine wt_getr hE (r := 76) wt_lf_pg_27 (hD 77 (Nat.le_of_ble_eq_true rfl)) wt_L77 rfl wp_pg_stand_d79 ?_
    refine wt_iload hE wp_pg_stand_d82 rfl ?_
    refine wt_iload_n hE wp_pg_stand_d84 rfl ?_
    refine wt_aload_n hE wp_pg_stand_d85 rfl ?_
    refine wt_getr hE (r := 39) wt_lf_pg_23 (hD 77 (Nat.le_of_ble_eq_true rfl)) wt_L77 rfl wp_pg_stand_d86 ?_
    refine wt_getr hE (r := 40) wt_lf_pg_60 (hD 39 (Nat.le_of_ble_eq_true rfl)) wt_L39 rfl wp_pg_stand_d89 ?_
    refine wt_iconst hE (0 : Int32) wp_pg_stand_d92 wt_ci_0 ?_
    obtain ⟨q10, hq10, h⟩ := wt_bi h
    refine wt_callVi hE [.int x4, .int x2, .ref (wt_ad (wt_xw X) 40), .int (0 : Int32)] wt_lm_pg_73 wt_ya_sk_choose (wp_sk_choose_ok hD (wt_lnE wt_L40) (hD 40 (Nat.le_of_ble_eq_true rfl)) hq10) (by omega) (hD 76 (Nat.le_of_ble_eq_true rfl)) wt_L76 rfl rfl rfl (Nat.le_of_ble_eq_true rfl) (Nat.zero_le _) wp_pg_stand_d93 (fun hbq10 => ?_)
    refine wt_istore hE [some (.ref (wt_ad (wt_xw X) 77)), some (.int x1), some (.int x2), some (.int x3), some (.int x4), some (.int s.1), some (.int q10.1)] wp_pg_stand_d96 (Nat.le_of_ble_eq_true rfl) rfl ?_
    refine wt_aload_n hE wp_pg_stand_d98 rfl ?_
    refine wt_getr hE (r := 39) wt_lf_pg_23 (hD 77 (Nat.le_of_ble_eq_true rfl)) wt_L77 rfl wp_pg_stand_d99 ?_
    refine wt_getr hE (r := 41) wt_lf_pg_77 (hD 39 (Nat.le_of_ble_eq_true rfl)) wt_L39 rfl wp_pg_stand_d102 ?_
    refine wt_iload hE wp_pg_stand_d105 rfl ?_
    refine wt_iload_n hE wp_pg_stand_d107 rfl ?_
    obtain ⟨q11, hq11, h⟩ := wt_bi h
    refine wt_callSv hE [.ref (wt_ad (wt_xw X) 41), .int q10.1, .int x3] wt_lm_pg_80 wt_ya_ap_put (wp_ap_put_ok (wt_lnE wt_L41) (hD 41 (Nat.le_of_ble_eq_true rfl)) hq11) (by omega) rfl rfl (Nat.le_of_ble_eq_true rfl) (Nat.zero_le _) wp_pg_stand_d108 ?_
    refine wt_aload_n hE wp_pg_stand_d111 rfl ?_
    refine wt_getr hE (r := 39) wt_lf_pg_23 (hD 77 (Nat.le_of_ble_eq_true rfl)) wt_L77 rfl wp_pg_stand_d112 ?_
    refine wt_getr hE (r := 42) wt_lf_pg_84 (hD 39 (Nat.le_of_ble_eq_true rfl)) wt_L39 rfl wp_pg_stand_d115 ?_
    refine wt_iload hE wp_pg_stand_d118 rfl ?_
    refine wt_iload hE wp_pg_stand_d120 rfl ?_
    obtain ⟨q12, hq12, h⟩ := wt_bi h
    refine wt_callSv hE [.ref (wt_ad (wt_xw X) 42), .int q10.1, .int s.1] wt_lm_pg_80 wt_ya_ap_put (wp_ap_put_ok (wt_lnE wt_L42) (hD 42 (Nat.le_of_ble_eq_true rfl)) hq12) (by omega) rfl rfl (Nat.le_of_ble_eq_true rfl) (Nat.zero_le _) wp_pg_stand_d122 ?_
    refine wt_iinc hE (s.1 + (1 : Int32)) [some (.ref (wt_ad (wt_xw X) 77)), some (.int x1), some (.int x2), some (.int x3), some (.int x4), some (.int (s.1 + (1 : Int32))), some (.int q10.1)] wp_pg_stand_d125 (by decide) rfl rfl rfl ?_
    refine wt_goto hE 66 wp_pg_stand_d128 rfl ?_
    refine wt_wk [true, true, true, true, true, true, false] rfl ?_
    exact hK66 ((s.1 + (1 : Int32)), q12) h
noncomputable def wp_pg_stand_B53 (n : Nat) (x1 : Int32) (x2 : Int32) (x3 : Int32) (K53 : Int32 × wt_St → Option (Int32 × wt_St)) (s : Int32 × wt_St) : Option (Int32 × wt_St) :=
  if (26 : Int32) ≤ s.1 then
    (wp_ap_put n 43 x3 x1 s.2).bind fun q7 =>
    some (x3, q7)
  else
    wt_it (wp_pg_stand_B66 n x1 x2 x3 s.1 K53) n ((0 : Int32), s.2)
set_option maxRecDepth 100000 in
set_option maxHeartbeats 4000000 in
theorem wp_pg_stand_B53_ok  {x1 : Int32} {x2 : Int32} {x3 : Int32} {X : wt_X} {n : Nat} {res : Int32 × wt_St} (hE : wt_Ok X prog_3_method_4_code 7 "WornType$Pages" 4 0) (hR : wt_Rt X (some .int) (some res.1) res.2) (hD : ∀ i, i < 108 → wt_dom (wt_xw X) i)  {K53 : Int32 × wt_St → Option (Int32 × wt_St)} (hK53 : ∀ s : Int32 × wt_St, K53 s = some res → wt_V X 0 s.2 53 [some (.ref (wt_ad (wt_xw X) 77)), some (.int x1), some (.int x2), some (.int x3), some (.int s.1), none, none] []) {s : Int32 × wt_St} (h : wp_pg_stand_B53 n x1 x2 x3 K53 s = some res) : wt_V X 0 s.2 53 [some (.ref (wt_ad (wt_xw X) 77)), some (.int x1), some (.int x2), some (.int x3), some (.int s.1), none, none] [] := by
  unfold wp_pg_stand_B53 at h
  refine wt_iload hE wp_pg_stand_d53 rfl ?_
  refine wt_aload_n hE wp_pg_stand_d55 rfl ?_
  refine wt_getr hE (r := 78) wt_lf_pg_31 (hD 77 (Nat.le_of_ble_eq_true rfl)) wt_L77 rfl wp_pg_stand_d56 ?_
  refine wt_alen hE (26 : Int32) (hD 78 (Nat.le_of_ble_eq_true rfl)) wt_L78 rfl wp_pg_stand_d59 ?_
  refine wt_icmp_ge hE 137 wp_pg_stand_d60 rfl (fun c6 => ?_) (fun c6 => ?_)
  · have h := wt_ip c6 h
    refine wt_aload_n hE wp_pg_stand_d137 rfl ?_
    refine wt_getr hE (r := 39) wt_lf_pg_23 (hD 77 (Nat.le_of_ble_eq_true rfl)) wt_L77 rfl wp_pg_stand_d138 ?_
    refine wt_getr hE (r := 43) wt_lf_pg_41 (hD 39 (Nat.le_of_ble_eq_true rfl)) wt_L39 rfl wp_pg_stand_d141 ?_
    refine wt_iload_n hE wp_pg_stand_d144 rfl ?_
    refine wt_iload_n hE wp_pg_stand_d145 rfl ?_
    obtain ⟨q7, hq7, h⟩ := wt_bi h
    refine wt_callSv hE [.ref (wt_ad (wt_xw X) 43), .int x3, .int x1] wt_lm_pg_80 wt_ya_ap_put (wp_ap_put_ok (wt_lnE wt_L43) (hD 43 (Nat.le_of_ble_eq_true rfl)) hq7) (by omega) rfl rfl (Nat.le_of_ble_eq_true rfl) (Nat.zero_le _) wp_pg_stand_d146 ?_
    refine wt_iload_n hE wp_pg_stand_d149 rfl ?_
    cases h
    exact wt_iret hE hR wp_pg_stand_d150
  · have h := wt_in c6 h
    refine wt_iconst hE (0 : Int32) wp_pg_stand_d63 wt_ci_0 ?_
    refine wt_istore hE [some (.ref (wt_ad (wt_xw X) 77)), some (.int x1), some (.int x2), some (.int x3), some (.int s.1), some (.int (0 : Int32)), none] wp_pg_stand_d64 (Nat.le_of_ble_eq_true rfl) rfl ?_
    exact wt_it_ind (fun z => wt_V X 0 z.2 66 [some (.ref (wt_ad (wt_xw X) 77)), some (.int x1), some (.int x2), some (.int x3), some (.int s.1), some (.int z.1), none] []) (fun K hK z h => wp_pg_stand_B66_ok hE hR hD hK53 hK h) n ((0 : Int32), s.2) h
noncomputable def wp_pg_stand (n : Nat) (x1 : Int32) (x2 : Int32) (σ : wt_St) : Option (Int32 × wt_St) :=
  (wp_tx_spell n 78 x1 σ).bind fun q1 =>
  (wp_sk_lacking n 78 40 x2 q1).bind fun q2 =>
  if q2.1 = (-1 : Int32) then
    (wp_pg_firstFree n q2.2).bind fun q4 =>
    if q4.1 = (-1 : Int32) then
      some ((-2 : Int32), q4.2)
    else
      wt_it (wp_pg_stand_B53 n x1 x2 q4.1) n ((0 : Int32), q4.2)
  else
    some ((-1 : Int32), q2.2)
set_option maxRecDepth 100000 in
set_option maxHeartbeats 4000000 in
theorem wp_pg_stand_ok {l : Launch} {w : wt_E} {n : Nat} {x1 : Int32} {x2 : Int32} (hD : ∀ i, i < 108 → wt_dom w i) {σ : wt_St} {q : Int32 × wt_St} (h : wp_pg_stand n x1 x2 σ = some q) : wt_Ctr l w wt_y_pg_stand prog_3_method_4_code 7 (some .int) 4 [.ref (wt_ad w 77), .int x1, .int x2] σ (some q.1) q.2 := by
  refine wt_ctr wt_pl_pg_stand rfl (Nat.le_of_ble_eq_true rfl) [some (.ref (wt_ad w 77)), some (.int x1), some (.int x2), none, none, none, none] rfl ?_
  intro X hXl hXw hE hR
  subst hXl
  subst hXw
  have hE : wt_Ok X prog_3_method_4_code 7 "WornType$Pages" 4 0 := hE
  unfold wp_pg_stand at h
  refine wt_aload_n hE wp_pg_stand_d0 rfl ?_
  refine wt_getr hE (r := 34) wt_lf_pg_19 (hD 77 (Nat.le_of_ble_eq_true rfl)) wt_L77 rfl wp_pg_stand_d1 ?_
  refine wt_iload_n hE wp_pg_stand_d4 rfl ?_
  refine wt_aload_n hE wp_pg_stand_d5 rfl ?_
  refine wt_getr hE (r := 78) wt_lf_pg_31 (hD 77 (Nat.le_of_ble_eq_true rfl)) wt_L77 rfl wp_pg_stand_d6 ?_
  obtain ⟨q1, hq1, h⟩ := wt_bi h
  refine wt_callVv hE [.int x1, .ref (wt_ad (wt_xw X) 78)] wt_lm_pg_54 wt_ya_tx_spell (wp_tx_spell_ok hD (wt_lnE wt_L78) (hD 78 (Nat.le_of_ble_eq_true rfl)) hq1) (by omega) (hD 34 (Nat.le_of_ble_eq_true rfl)) wt_L34 rfl rfl rfl (Nat.le_of_ble_eq_true rfl) (Nat.zero_le _) wp_pg_stand_d9 ?_
  refine wt_aload_n hE wp_pg_stand_d12 rfl ?_
  refine wt_getr hE (r := 76) wt_lf_pg_27 (hD 77 (Nat.le_of_ble_eq_true rfl)) wt_L77 rfl wp_pg_stand_d13 ?_
  refine wt_aload_n hE wp_pg_stand_d16 rfl ?_
  refine wt_getr hE (r := 78) wt_lf_pg_31 (hD 77 (Nat.le_of_ble_eq_true rfl)) wt_L77 rfl wp_pg_stand_d17 ?_
  refine wt_iload_n hE wp_pg_stand_d20 rfl ?_
  refine wt_aload_n hE wp_pg_stand_d21 rfl ?_
  refine wt_getr hE (r := 39) wt_lf_pg_23 (hD 77 (Nat.le_of_ble_eq_true rfl)) wt_L77 rfl wp_pg_stand_d22 ?_
  refine wt_getr hE (r := 40) wt_lf_pg_60 (hD 39 (Nat.le_of_ble_eq_true rfl)) wt_L39 rfl wp_pg_stand_d25 ?_
  obtain ⟨q2, hq2, h⟩ := wt_bi h
  refine wt_callVi hE [.ref (wt_ad (wt_xw X) 78), .int x2, .ref (wt_ad (wt_xw X) 40)] wt_lm_pg_63 wt_ya_sk_lacking (wp_sk_lacking_ok hD (wt_lnE wt_L78) (hD 78 (Nat.le_of_ble_eq_true rfl)) (wt_lnE wt_L40) (hD 40 (Nat.le_of_ble_eq_true rfl)) hq2) (by omega) (hD 76 (Nat.le_of_ble_eq_true rfl)) wt_L76 rfl rfl rfl (Nat.le_of_ble_eq_true rfl) (Nat.zero_le _) wp_pg_stand_d28 (fun hbq2 => ?_)
  refine wt_iconst hE (-1 : Int32) wp_pg_stand_d31 wt_ci_m1 ?_
  refine wt_icmp_eq hE 37 wp_pg_stand_d32 rfl (fun c3 => ?_) (fun c3 => ?_)
  · have h := wt_ip c3 h
    refine wt_aload_n hE wp_pg_stand_d37 rfl ?_
    obtain ⟨q4, hq4, h⟩ := wt_bi h
    refine wt_callVi hE [] wt_lm_pg_69 wt_ya_pg_firstFree (wp_pg_firstFree_ok hD hq4) (by omega) (hD 77 (Nat.le_of_ble_eq_true rfl)) wt_L77 rfl rfl rfl (Nat.le_of_ble_eq_true rfl) (Nat.zero_le _) wp_pg_stand_d38 (fun hbq4 => ?_)
    refine wt_istore_n hE [some (.ref (wt_ad (wt_xw X) 77)), some (.int x1), some (.int x2), some (.int q4.1), none, none, none] wp_pg_stand_d41 (by decide) rfl ?_
    refine wt_iload_n hE wp_pg_stand_d42 rfl ?_
    refine wt_iconst hE (-1 : Int32) wp_pg_stand_d43 wt_ci_m1 ?_
    refine wt_icmp_ne hE 50 wp_pg_stand_d44 rfl (fun c5 => ?_) (fun c5 => ?_)
    · have h := wt_in c5 h
      refine wt_iconst hE (0 : Int32) wp_pg_stand_d50 wt_ci_0 ?_
      refine wt_istore hE [some (.ref (wt_ad (wt_xw X) 77)), some (.int x1), some (.int x2), some (.int q4.1), some (.int (0 : Int32)), none, none] wp_pg_stand_d51 (Nat.le_of_ble_eq_true rfl) rfl ?_
      exact wt_it_ind (fun z => wt_V X 0 z.2 53 [some (.ref (wt_ad (wt_xw X) 77)), some (.int x1), some (.int x2), some (.int q4.1), some (.int z.1), none, none] []) (fun K hK z h => wp_pg_stand_B53_ok hE hR hD hK h) n ((0 : Int32), q4.2) h
    · have h := wt_ip c5 h
      refine wt_bipush hE (-2 : Int32) wp_pg_stand_d47 wt_cb_m2 ?_
      cases h
      exact wt_iret hE hR wp_pg_stand_d49
  · have h := wt_in c3 h
    refine wt_iconst hE (-1 : Int32) wp_pg_stand_d35 wt_ci_m1 ?_
    cases h
    exact wt_iret hE hR wp_pg_stand_d36
def wb13m3_prog_8_method_8_code_r3 : List (List Nat) := [42, 180, 0, 15, 42, 180, 0, 24, 28, 184, 0, 69, 42, 89, 180, 0, 24, 4, 96, 181, 0, 24, 4, 172] :: []
def wb13m3_prog_8_method_8_code_r2 : List (List Nat) := [42, 180, 0, 18, 42, 180, 0, 24, 16, 26, 104, 29, 96, 42, 180, 0, 21, 29, 46, 184, 0, 69, 132, 3, 1, 167, 255, 222] :: wb13m3_prog_8_method_8_code_r3
def wb13m3_prog_8_method_8_code_r1 : List (List Nat) := [96, 184, 0, 28, 42, 180, 0, 21, 182, 0, 77, 132, 3, 1, 167, 255, 224, 3, 62, 29, 42, 180, 0, 21, 190, 162, 0, 31] :: wb13m3_prog_8_method_8_code_r2
def wb13m3_prog_8_method_8_code_r0 : List (List Nat) := [42, 180, 0, 21, 3, 184, 0, 73, 3, 62, 29, 28, 162, 0, 33, 43, 42, 180, 0, 9, 42, 180, 0, 24, 16, 12, 104, 29] :: wb13m3_prog_8_method_8_code_r1
set_option maxRecDepth 100000 in
theorem wb13m3_prog_8_method_8_code_c0 : wt_cs prog_8_method_8_code 0 wb13m3_prog_8_method_8_code_r0 := wt_cs_of (by decide +kernel)
theorem wb13m3_prog_8_method_8_code_c1 : wt_cs prog_8_method_8_code 28 wb13m3_prog_8_method_8_code_r1 := wt_cs_tl (m := 28) wb13m3_prog_8_method_8_code_c0 rfl rfl
theorem wb13m3_prog_8_method_8_code_c2 : wt_cs prog_8_method_8_code 56 wb13m3_prog_8_method_8_code_r2 := wt_cs_tl (m := 28) wb13m3_prog_8_method_8_code_c1 rfl rfl
theorem wb13m3_prog_8_method_8_code_c3 : wt_cs prog_8_method_8_code 84 wb13m3_prog_8_method_8_code_r3 := wt_cs_tl (m := 28) wb13m3_prog_8_method_8_code_c2 rfl rfl
theorem wp_tx_close_d0 : decode prog_8_method_8_code 0 = .ok (.aload_n 0, 1) := wt_op42 wb13m3_prog_8_method_8_code_c0 0 rfl rfl
theorem wp_tx_close_d1 : decode prog_8_method_8_code 1 = .ok (.getfield 21, 3) := wt_op180 wb13m3_prog_8_method_8_code_c0 1 rfl rfl rfl
theorem wp_tx_close_d4 : decode prog_8_method_8_code 4 = .ok (.iconst 0, 1) := wt_op3 wb13m3_prog_8_method_8_code_c0 4 rfl rfl
theorem wp_tx_close_d5 : decode prog_8_method_8_code 5 = .ok (.invokestatic 73, 3) := wt_op184 wb13m3_prog_8_method_8_code_c0 5 rfl rfl rfl
theorem wp_tx_close_d8 : decode prog_8_method_8_code 8 = .ok (.iconst 0, 1) := wt_op3 wb13m3_prog_8_method_8_code_c0 8 rfl rfl
theorem wp_tx_close_d9 : decode prog_8_method_8_code 9 = .ok (.istore_n 3, 1) := wt_op62 wb13m3_prog_8_method_8_code_c0 9 rfl rfl
theorem wp_tx_close_d10 : decode prog_8_method_8_code 10 = .ok (.iload_n 3, 1) := wt_op29 wb13m3_prog_8_method_8_code_c0 10 rfl rfl
theorem wp_tx_close_d11 : decode prog_8_method_8_code 11 = .ok (.iload_n 2, 1) := wt_op28 wb13m3_prog_8_method_8_code_c0 11 rfl rfl
theorem wp_tx_close_d12 : decode prog_8_method_8_code 12 = .ok (.if_icmp .ge 33, 3) := wt_op162 wb13m3_prog_8_method_8_code_c0 12 rfl rfl rfl
theorem wp_tx_close_d15 : decode prog_8_method_8_code 15 = .ok (.aload_n 1, 1) := wt_op43 wb13m3_prog_8_method_8_code_c0 15 rfl rfl
theorem wp_tx_close_d16 : decode prog_8_method_8_code 16 = .ok (.aload_n 0, 1) := wt_op42 wb13m3_prog_8_method_8_code_c0 16 rfl rfl
theorem wp_tx_close_d17 : decode prog_8_method_8_code 17 = .ok (.getfield 9, 3) := wt_op180 wb13m3_prog_8_method_8_code_c0 17 rfl rfl rfl
theorem wp_tx_close_d20 : decode prog_8_method_8_code 20 = .ok (.aload_n 0, 1) := wt_op42 wb13m3_prog_8_method_8_code_c0 20 rfl rfl
theorem wp_tx_close_d21 : decode prog_8_method_8_code 21 = .ok (.getfield 24, 3) := wt_op180 wb13m3_prog_8_method_8_code_c0 21 rfl rfl rfl
theorem wp_tx_close_d24 : decode prog_8_method_8_code 24 = .ok (.bipush 12, 2) := wt_op16 wb13m3_prog_8_method_8_code_c0 24 rfl rfl rfl
theorem wp_tx_close_d26 : decode prog_8_method_8_code 26 = .ok (.imul, 1) := wt_op104 wb13m3_prog_8_method_8_code_c0 26 rfl rfl
theorem wp_tx_close_d27 : decode prog_8_method_8_code 27 = .ok (.iload_n 3, 1) := wt_op29 wb13m3_prog_8_method_8_code_c0 27 rfl rfl
theorem wp_tx_close_d28 : decode prog_8_method_8_code 28 = .ok (.iadd, 1) := wt_op96 wb13m3_prog_8_method_8_code_c1 0 rfl rfl
theorem wp_tx_close_d29 : decode prog_8_method_8_code 29 = .ok (.invokestatic 28, 3) := wt_op184 wb13m3_prog_8_method_8_code_c1 1 rfl rfl rfl
theorem wp_tx_close_d32 : decode prog_8_method_8_code 32 = .ok (.aload_n 0, 1) := wt_op42 wb13m3_prog_8_method_8_code_c1 4 rfl rfl
theorem wp_tx_close_d33 : decode prog_8_method_8_code 33 = .ok (.getfield 21, 3) := wt_op180 wb13m3_prog_8_method_8_code_c1 5 rfl rfl rfl
theorem wp_tx_close_d36 : decode prog_8_method_8_code 36 = .ok (.invokevirtual 77, 3) := wt_op182 wb13m3_prog_8_method_8_code_c1 8 rfl rfl rfl
theorem wp_tx_close_d39 : decode prog_8_method_8_code 39 = .ok (.iinc 3 1, 3) := wt_op132 wb13m3_prog_8_method_8_code_c1 11 rfl rfl rfl
theorem wp_tx_close_d42 : decode prog_8_method_8_code 42 = .ok (.goto (-32), 3) := wt_op167 wb13m3_prog_8_method_8_code_c1 14 rfl rfl rfl
theorem wp_tx_close_d45 : decode prog_8_method_8_code 45 = .ok (.iconst 0, 1) := wt_op3 wb13m3_prog_8_method_8_code_c1 17 rfl rfl
theorem wp_tx_close_d46 : decode prog_8_method_8_code 46 = .ok (.istore_n 3, 1) := wt_op62 wb13m3_prog_8_method_8_code_c1 18 rfl rfl
theorem wp_tx_close_d47 : decode prog_8_method_8_code 47 = .ok (.iload_n 3, 1) := wt_op29 wb13m3_prog_8_method_8_code_c1 19 rfl rfl
theorem wp_tx_close_d48 : decode prog_8_method_8_code 48 = .ok (.aload_n 0, 1) := wt_op42 wb13m3_prog_8_method_8_code_c1 20 rfl rfl
theorem wp_tx_close_d49 : decode prog_8_method_8_code 49 = .ok (.getfield 21, 3) := wt_op180 wb13m3_prog_8_method_8_code_c1 21 rfl rfl rfl
theorem wp_tx_close_d52 : decode prog_8_method_8_code 52 = .ok (.arraylength, 1) := wt_op190 wb13m3_prog_8_method_8_code_c1 24 rfl rfl
theorem wp_tx_close_d53 : decode prog_8_method_8_code 53 = .ok (.if_icmp .ge 31, 3) := wt_op162 wb13m3_prog_8_method_8_code_c1 25 rfl rfl rfl
theorem wp_tx_close_d56 : decode prog_8_method_8_code 56 = .ok (.aload_n 0, 1) := wt_op42 wb13m3_prog_8_method_8_code_c2 0 rfl rfl
theorem wp_tx_close_d57 : decode prog_8_method_8_code 57 = .ok (.getfield 18, 3) := wt_op180 wb13m3_prog_8_method_8_code_c2 1 rfl rfl rfl
theorem wp_tx_close_d60 : decode prog_8_method_8_code 60 = .ok (.aload_n 0, 1) := wt_op42 wb13m3_prog_8_method_8_code_c2 4 rfl rfl
theorem wp_tx_close_d61 : decode prog_8_method_8_code 61 = .ok (.getfield 24, 3) := wt_op180 wb13m3_prog_8_method_8_code_c2 5 rfl rfl rfl
theorem wp_tx_close_d64 : decode prog_8_method_8_code 64 = .ok (.bipush 26, 2) := wt_op16 wb13m3_prog_8_method_8_code_c2 8 rfl rfl rfl
theorem wp_tx_close_d66 : decode prog_8_method_8_code 66 = .ok (.imul, 1) := wt_op104 wb13m3_prog_8_method_8_code_c2 10 rfl rfl
theorem wp_tx_close_d67 : decode prog_8_method_8_code 67 = .ok (.iload_n 3, 1) := wt_op29 wb13m3_prog_8_method_8_code_c2 11 rfl rfl
theorem wp_tx_close_d68 : decode prog_8_method_8_code 68 = .ok (.iadd, 1) := wt_op96 wb13m3_prog_8_method_8_code_c2 12 rfl rfl
theorem wp_tx_close_d69 : decode prog_8_method_8_code 69 = .ok (.aload_n 0, 1) := wt_op42 wb13m3_prog_8_method_8_code_c2 13 rfl rfl
theorem wp_tx_close_d70 : decode prog_8_method_8_code 70 = .ok (.getfield 21, 3) := wt_op180 wb13m3_prog_8_method_8_code_c2 14 rfl rfl rfl
theorem wp_tx_close_d73 : decode prog_8_method_8_code 73 = .ok (.iload_n 3, 1) := wt_op29 wb13m3_prog_8_method_8_code_c2 17 rfl rfl
theorem wp_tx_close_d74 : decode prog_8_method_8_code 74 = .ok (.iaload, 1) := wt_op46 wb13m3_prog_8_method_8_code_c2 18 rfl rfl
theorem wp_tx_close_d75 : decode prog_8_method_8_code 75 = .ok (.invokestatic 69, 3) := wt_op184 wb13m3_prog_8_method_8_code_c2 19 rfl rfl rfl
theorem wp_tx_close_d78 : decode prog_8_method_8_code 78 = .ok (.iinc 3 1, 3) := wt_op132 wb13m3_prog_8_method_8_code_c2 22 rfl rfl rfl
theorem wp_tx_close_d81 : decode prog_8_method_8_code 81 = .ok (.goto (-34), 3) := wt_op167 wb13m3_prog_8_method_8_code_c2 25 rfl rfl rfl
theorem wp_tx_close_d84 : decode prog_8_method_8_code 84 = .ok (.aload_n 0, 1) := wt_op42 wb13m3_prog_8_method_8_code_c3 0 rfl rfl
theorem wp_tx_close_d85 : decode prog_8_method_8_code 85 = .ok (.getfield 15, 3) := wt_op180 wb13m3_prog_8_method_8_code_c3 1 rfl rfl rfl
theorem wp_tx_close_d88 : decode prog_8_method_8_code 88 = .ok (.aload_n 0, 1) := wt_op42 wb13m3_prog_8_method_8_code_c3 4 rfl rfl
theorem wp_tx_close_d89 : decode prog_8_method_8_code 89 = .ok (.getfield 24, 3) := wt_op180 wb13m3_prog_8_method_8_code_c3 5 rfl rfl rfl
theorem wp_tx_close_d92 : decode prog_8_method_8_code 92 = .ok (.iload_n 2, 1) := wt_op28 wb13m3_prog_8_method_8_code_c3 8 rfl rfl
theorem wp_tx_close_d93 : decode prog_8_method_8_code 93 = .ok (.invokestatic 69, 3) := wt_op184 wb13m3_prog_8_method_8_code_c3 9 rfl rfl rfl
theorem wp_tx_close_d96 : decode prog_8_method_8_code 96 = .ok (.aload_n 0, 1) := wt_op42 wb13m3_prog_8_method_8_code_c3 12 rfl rfl
theorem wp_tx_close_d97 : decode prog_8_method_8_code 97 = .ok (.dup, 1) := wt_op89 wb13m3_prog_8_method_8_code_c3 13 rfl rfl
theorem wp_tx_close_d98 : decode prog_8_method_8_code 98 = .ok (.getfield 24, 3) := wt_op180 wb13m3_prog_8_method_8_code_c3 14 rfl rfl rfl
theorem wp_tx_close_d101 : decode prog_8_method_8_code 101 = .ok (.iconst 1, 1) := wt_op4 wb13m3_prog_8_method_8_code_c3 17 rfl rfl
theorem wp_tx_close_d102 : decode prog_8_method_8_code 102 = .ok (.iadd, 1) := wt_op96 wb13m3_prog_8_method_8_code_c3 18 rfl rfl
theorem wp_tx_close_d103 : decode prog_8_method_8_code 103 = .ok (.putfield 24, 3) := wt_op181 wb13m3_prog_8_method_8_code_c3 19 rfl rfl rfl
theorem wp_tx_close_d106 : decode prog_8_method_8_code 106 = .ok (.iconst 1, 1) := wt_op4 wb13m3_prog_8_method_8_code_c3 22 rfl rfl
theorem wp_tx_close_d107 : decode prog_8_method_8_code 107 = .ok (.ireturn, 1) := wt_op172 wb13m3_prog_8_method_8_code_c3 23 rfl rfl
noncomputable def wp_tx_close_B47 (n : Nat) (t1 : Nat) (x2 : Int32) (K47 : Int32 × wt_St → Option (Int32 × wt_St)) (s : Int32 × wt_St) : Option (Int32 × wt_St) :=
  if (26 : Int32) ≤ s.1 then
    (wp_ap_put n 36 (wt_gf s.2 34 4) x2 s.2).bind fun q4 =>
    some ((1 : Int32), (wt_sf q4 34 4 ((wt_gf q4 34 4) + (1 : Int32))))
  else
    if s.1 < 0 ∨ 26 ≤ Int32.toNatClampNeg s.1 then none else
    (wp_ap_put n 37 (((wt_gf s.2 34 4) * (26 : Int32)) + s.1) (wt_ga s.2 38 (Int32.toNatClampNeg s.1)) s.2).bind fun q6 =>
    K47 ((s.1 + (1 : Int32)), q6)
set_option maxRecDepth 100000 in
set_option maxHeartbeats 4000000 in
theorem wp_tx_close_B47_ok  {t1 : Nat} {x2 : Int32} {X : wt_X} {n : Nat} {res : Int32 × wt_St} (hE : wt_Ok X prog_8_method_8_code 4 "WornType$Texts" 3 0) (hR : wt_Rt X (some .boolean) (some res.1) res.2) (hD : ∀ i, i < 108 → wt_dom (wt_xw X) i) (hI_t1 : wt_isTongue t1) (hT_t1 : ∀ j, j < 7 → wt_dom (wt_xw X) (t1 + j)) {K47 : Int32 × wt_St → Option (Int32 × wt_St)} (hK47 : ∀ s : Int32 × wt_St, K47 s = some res → wt_V X 0 s.2 47 [some (.ref (wt_ad (wt_xw X) 34)), some (.ref (wt_ad (wt_xw X) t1)), some (.int x2), some (.int s.1)] []) {s : Int32 × wt_St} (h : wp_tx_close_B47 n t1 x2 K47 s = some res) : wt_V X 0 s.2 47 [some (.ref (wt_ad (wt_xw X) 34)), some (.ref (wt_ad (wt_xw X) t1)), some (.int x2), some (.int s.1)] [] := by
  unfold wp_tx_close_B47 at h
  refine wt_iload_n hE wp_tx_close_d47 rfl ?_
  refine wt_aload_n hE wp_tx_close_d48 rfl ?_
  refine wt_getr hE (r := 38) wt_lf_tx_21 (hD 34 (Nat.le_of_ble_eq_true rfl)) wt_L34 rfl wp_tx_close_d49 ?_
  refine wt_alen hE (26 : Int32) (hD 38 (Nat.le_of_ble_eq_true rfl)) wt_L38 rfl wp_tx_close_d52 ?_
  refine wt_icmp_ge hE 84 wp_tx_close_d53 rfl (fun c3 => ?_) (fun c3 => ?_)
  · have h := wt_ip c3 h
    refine wt_aload_n hE wp_tx_close_d84 rfl ?_
    refine wt_getr hE (r := 36) wt_lf_tx_15 (hD 34 (Nat.le_of_ble_eq_true rfl)) wt_L34 rfl wp_tx_close_d85 ?_
    refine wt_aload_n hE wp_tx_close_d88 rfl ?_
    refine wt_geti hE wt_lf_tx_24 (hD 34 (Nat.le_of_ble_eq_true rfl)) wt_L34 rfl wp_tx_close_d89 ?_
    refine wt_iload_n hE wp_tx_close_d92 rfl ?_
    obtain ⟨q4, hq4, h⟩ := wt_bi h
    refine wt_callSv hE [.ref (wt_ad (wt_xw X) 36), .int (wt_gf s.2 34 4), .int x2] wt_lm_tx_69 wt_ya_ap_put (wp_ap_put_ok (wt_lnE wt_L36) (hD 36 (Nat.le_of_ble_eq_true rfl)) hq4) (by omega) rfl rfl (Nat.le_of_ble_eq_true rfl) (Nat.zero_le _) wp_tx_close_d93 ?_
    refine wt_aload_n hE wp_tx_close_d96 rfl ?_
    refine wt_dup hE wp_tx_close_d97 rfl ?_
    refine wt_geti hE wt_lf_tx_24 (hD 34 (Nat.le_of_ble_eq_true rfl)) wt_L34 rfl wp_tx_close_d98 ?_
    refine wt_iconst hE (1 : Int32) wp_tx_close_d101 wt_ci_1 ?_
    refine wt_iadd hE wp_tx_close_d102 ?_
    refine wt_puti hE wt_lf_tx_24 (hD 34 (Nat.le_of_ble_eq_true rfl)) wt_L34 rfl (fun q hq => by cases hq; rfl) wp_tx_close_d103 ?_
    refine wt_iconst hE (1 : Int32) wp_tx_close_d106 wt_ci_1 ?_
    cases h
    exact wt_zret hE (by decide) hR wp_tx_close_d107
  · have h := wt_in c3 h
    refine wt_aload_n hE wp_tx_close_d56 rfl ?_
    refine wt_getr hE (r := 37) wt_lf_tx_18 (hD 34 (Nat.le_of_ble_eq_true rfl)) wt_L34 rfl wp_tx_close_d57 ?_
    refine wt_aload_n hE wp_tx_close_d60 rfl ?_
    refine wt_geti hE wt_lf_tx_24 (hD 34 (Nat.le_of_ble_eq_true rfl)) wt_L34 rfl wp_tx_close_d61 ?_
    refine wt_bipush hE (26 : Int32) wp_tx_close_d64 wt_cb_26 ?_
    refine wt_imul hE wp_tx_close_d66 ?_
    refine wt_iload_n hE wp_tx_close_d67 rfl ?_
    refine wt_iadd hE wp_tx_close_d68 ?_
    refine wt_aload_n hE wp_tx_close_d69 rfl ?_
    refine wt_getr hE (r := 38) wt_lf_tx_21 (hD 34 (Nat.le_of_ble_eq_true rfl)) wt_L34 rfl wp_tx_close_d70 ?_
    refine wt_iload_n hE wp_tx_close_d73 rfl ?_
    obtain ⟨g5, h⟩ := wt_gd h
    refine wt_iald hE (hD 38 (Nat.le_of_ble_eq_true rfl)) wt_L38 g5 wp_tx_close_d74 ?_
    obtain ⟨q6, hq6, h⟩ := wt_bi h
    refine wt_callSv hE [.ref (wt_ad (wt_xw X) 37), .int (((wt_gf s.2 34 4) * (26 : Int32)) + s.1), .int (wt_ga s.2 38 (Int32.toNatClampNeg s.1))] wt_lm_tx_69 wt_ya_ap_put (wp_ap_put_ok (wt_lnE wt_L37) (hD 37 (Nat.le_of_ble_eq_true rfl)) hq6) (by omega) rfl rfl (Nat.le_of_ble_eq_true rfl) (Nat.zero_le _) wp_tx_close_d75 ?_
    refine wt_iinc hE (s.1 + (1 : Int32)) [some (.ref (wt_ad (wt_xw X) 34)), some (.ref (wt_ad (wt_xw X) t1)), some (.int x2), some (.int (s.1 + (1 : Int32)))] wp_tx_close_d78 (by decide) rfl rfl rfl ?_
    refine wt_goto hE 47 wp_tx_close_d81 rfl ?_
    exact hK47 ((s.1 + (1 : Int32)), q6) h
noncomputable def wp_tx_close_B10 (n : Nat) (t1 : Nat) (x2 : Int32) (K10 : Int32 × wt_St → Option (Int32 × wt_St)) (s : Int32 × wt_St) : Option (Int32 × wt_St) :=
  if x2 ≤ s.1 then
    wt_it (wp_tx_close_B47 n t1 x2) n ((0 : Int32), s.2)
  else
    (wp_ap_look n 35 (((wt_gf s.2 34 4) * (12 : Int32)) + s.1) s.2).bind fun q7 =>
    (wp_tg_countInto n t1 38 q7.1 q7.2).bind fun q8 =>
    K10 ((s.1 + (1 : Int32)), q8)
set_option maxRecDepth 100000 in
set_option maxHeartbeats 4000000 in
theorem wp_tx_close_B10_ok  {t1 : Nat} {x2 : Int32} {X : wt_X} {n : Nat} {res : Int32 × wt_St} (hE : wt_Ok X prog_8_method_8_code 4 "WornType$Texts" 3 0) (hR : wt_Rt X (some .boolean) (some res.1) res.2) (hD : ∀ i, i < 108 → wt_dom (wt_xw X) i) (hI_t1 : wt_isTongue t1) (hT_t1 : ∀ j, j < 7 → wt_dom (wt_xw X) (t1 + j)) {K10 : Int32 × wt_St → Option (Int32 × wt_St)} (hK10 : ∀ s : Int32 × wt_St, K10 s = some res → wt_V X 0 s.2 10 [some (.ref (wt_ad (wt_xw X) 34)), some (.ref (wt_ad (wt_xw X) t1)), some (.int x2), some (.int s.1)] []) {s : Int32 × wt_St} (h : wp_tx_close_B10 n t1 x2 K10 s = some res) : wt_V X 0 s.2 10 [some (.ref (wt_ad (wt_xw X) 34)), some (.ref (wt_ad (wt_xw X) t1)), some (.int x2), some (.int s.1)] [] := by
  unfold wp_tx_close_B10 at h
  refine wt_iload_n hE wp_tx_close_d10 rfl ?_
  refine wt_iload_n hE wp_tx_close_d11 rfl ?_
  refine wt_icmp_ge hE 45 wp_tx_close_d12 rfl (fun c2 => ?_) (fun c2 => ?_)
  · have h := wt_ip c2 h
    refine wt_iconst hE (0 : Int32) wp_tx_close_d45 wt_ci_0 ?_
    refine wt_istore_n hE [some (.ref (wt_ad (wt_xw X) 34)), some (.ref (wt_ad (wt_xw X) t1)), some (.int x2), some (.int (0 : Int32))] wp_tx_close_d46 (by decide) rfl ?_
    exact wt_it_ind (fun z => wt_V X 0 z.2 47 [some (.ref (wt_ad (wt_xw X) 34)), some (.ref (wt_ad (wt_xw X) t1)), some (.int x2), some (.int z.1)] []) (fun K hK z h => wp_tx_close_B47_ok hE hR hD hI_t1 hT_t1 hK h) n ((0 : Int32), s.2) h
  · have h := wt_in c2 h
    refine wt_aload_n hE wp_tx_close_d15 rfl ?_
    refine wt_aload_n hE wp_tx_close_d16 rfl ?_
    refine wt_getr hE (r := 35) wt_lf_tx_9 (hD 34 (Nat.le_of_ble_eq_true rfl)) wt_L34 rfl wp_tx_close_d17 ?_
    refine wt_aload_n hE wp_tx_close_d20 rfl ?_
    refine wt_geti hE wt_lf_tx_24 (hD 34 (Nat.le_of_ble_eq_true rfl)) wt_L34 rfl wp_tx_close_d21 ?_
    refine wt_bipush hE (12 : Int32) wp_tx_close_d24 wt_cb_12 ?_
    refine wt_imul hE wp_tx_close_d26 ?_
    refine wt_iload_n hE wp_tx_close_d27 rfl ?_
    refine wt_iadd hE wp_tx_close_d28 ?_
    obtain ⟨q7, hq7, h⟩ := wt_bi h
    refine wt_callSi hE [.ref (wt_ad (wt_xw X) 35), .int (((wt_gf s.2 34 4) * (12 : Int32)) + s.1)] wt_lm_tx_28 wt_ya_ap_look (wp_ap_look_ok (wt_lnE wt_L35) (hD 35 (Nat.le_of_ble_eq_true rfl)) hq7) (by omega) rfl rfl (Nat.le_of_ble_eq_true rfl) (Nat.zero_le _) wp_tx_close_d29 (fun hbq7 => ?_)
    refine wt_aload_n hE wp_tx_close_d32 rfl ?_
    refine wt_getr hE (r := 38) wt_lf_tx_21 (hD 34 (Nat.le_of_ble_eq_true rfl)) wt_L34 rfl wp_tx_close_d33 ?_
    obtain ⟨q8, hq8, h⟩ := wt_bi h
    refine wt_callVv hE [.int q7.1, .ref (wt_ad (wt_xw X) 38)] wt_lm_tx_77 wt_ya_tg_countInto (wp_tg_countInto_ok hI_t1 hT_t1 (wt_lnE wt_L38) (hD 38 (Nat.le_of_ble_eq_true rfl)) hq8) (by omega) (hT_t1 0 (Nat.le_of_ble_eq_true rfl)) (hI_t1.1) rfl rfl rfl (Nat.le_of_ble_eq_true rfl) (Nat.zero_le _) wp_tx_close_d36 ?_
    refine wt_iinc hE (s.1 + (1 : Int32)) [some (.ref (wt_ad (wt_xw X) 34)), some (.ref (wt_ad (wt_xw X) t1)), some (.int x2), some (.int (s.1 + (1 : Int32)))] wp_tx_close_d39 (by decide) rfl rfl rfl ?_
    refine wt_goto hE 10 wp_tx_close_d42 rfl ?_
    exact hK10 ((s.1 + (1 : Int32)), q8) h
noncomputable def wp_tx_close (n : Nat) (t1 : Nat) (x2 : Int32) (σ : wt_St) : Option (Int32 × wt_St) :=
  (wp_ap_fillRow n 38 (0 : Int32) σ).bind fun q1 =>
  wt_it (wp_tx_close_B10 n t1 x2) n ((0 : Int32), q1)
set_option maxRecDepth 100000 in
set_option maxHeartbeats 4000000 in
theorem wp_tx_close_ok {l : Launch} {w : wt_E} {n : Nat} {t1 : Nat} {x2 : Int32} (hD : ∀ i, i < 108 → wt_dom w i) (hI_t1 : wt_isTongue t1) (hT_t1 : ∀ j, j < 7 → wt_dom w (t1 + j)) {σ : wt_St} {q : Int32 × wt_St} (h : wp_tx_close n t1 x2 σ = some q) : wt_Ctr l w wt_y_tx_close prog_8_method_8_code 4 (some .boolean) 3 [.ref (wt_ad w 34), .ref (wt_ad w t1), .int x2] σ (some q.1) q.2 := by
  refine wt_ctr wt_pl_tx_close rfl (Nat.le_of_ble_eq_true rfl) [some (.ref (wt_ad w 34)), some (.ref (wt_ad w t1)), some (.int x2), none] rfl ?_
  intro X hXl hXw hE hR
  subst hXl
  subst hXw
  have hE : wt_Ok X prog_8_method_8_code 4 "WornType$Texts" 3 0 := hE
  unfold wp_tx_close at h
  refine wt_aload_n hE wp_tx_close_d0 rfl ?_
  refine wt_getr hE (r := 38) wt_lf_tx_21 (hD 34 (Nat.le_of_ble_eq_true rfl)) wt_L34 rfl wp_tx_close_d1 ?_
  refine wt_iconst hE (0 : Int32) wp_tx_close_d4 wt_ci_0 ?_
  obtain ⟨q1, hq1, h⟩ := wt_bi h
  refine wt_callSv hE [.ref (wt_ad (wt_xw X) 38), .int (0 : Int32)] wt_lm_tx_73 wt_ya_ap_fillRow (wp_ap_fillRow_ok (wt_lnE wt_L38) (hD 38 (Nat.le_of_ble_eq_true rfl)) hq1) (by omega) rfl rfl (Nat.le_of_ble_eq_true rfl) (Nat.zero_le _) wp_tx_close_d5 ?_
  refine wt_iconst hE (0 : Int32) wp_tx_close_d8 wt_ci_0 ?_
  refine wt_istore_n hE [some (.ref (wt_ad (wt_xw X) 34)), some (.ref (wt_ad (wt_xw X) t1)), some (.int x2), some (.int (0 : Int32))] wp_tx_close_d9 (by decide) rfl ?_
  exact wt_it_ind (fun z => wt_V X 0 z.2 10 [some (.ref (wt_ad (wt_xw X) 34)), some (.ref (wt_ad (wt_xw X) t1)), some (.int x2), some (.int z.1)] []) (fun K hK z h => wp_tx_close_B10_ok hE hR hD hI_t1 hT_t1 hK h) n ((0 : Int32), q1) h
def wb13m3_prog_8_method_7_code_r3 : List (List Nat) := [42, 180, 0, 24, 16, 12, 104, 29, 96, 21, 4, 184, 0, 69, 132, 3, 1, 167, 255, 156, 3, 172] :: []
def wb13m3_prog_8_method_7_code_r2 : List (List Nat) := [21, 4, 2, 160, 0, 9, 43, 5, 182, 0, 50, 172, 29, 16, 12, 161, 0, 9, 43, 6, 182, 0, 50, 172, 42, 180, 0, 9] :: wb13m3_prog_8_method_7_code_r3
def wb13m3_prog_8_method_7_code_r1 : List (List Nat) := [43, 4, 182, 0, 50, 172, 43, 182, 0, 54, 154, 0, 5, 3, 172, 44, 43, 180, 0, 57, 43, 182, 0, 60, 182, 0, 64, 54, 4] :: wb13m3_prog_8_method_7_code_r2
def wb13m3_prog_8_method_7_code_r0 : List (List Nat) := [3, 62, 29, 16, 12, 163, 0, 100, 43, 182, 0, 40, 153, 0, 22, 29, 158, 0, 12, 42, 44, 29, 182, 0, 46, 167, 0, 8] :: wb13m3_prog_8_method_7_code_r1
set_option maxRecDepth 100000 in
theorem wb13m3_prog_8_method_7_code_c0 : wt_cs prog_8_method_7_code 0 wb13m3_prog_8_method_7_code_r0 := wt_cs_of (by decide +kernel)
theorem wb13m3_prog_8_method_7_code_c1 : wt_cs prog_8_method_7_code 28 wb13m3_prog_8_method_7_code_r1 := wt_cs_tl (m := 28) wb13m3_prog_8_method_7_code_c0 rfl rfl
theorem wb13m3_prog_8_method_7_code_c2 : wt_cs prog_8_method_7_code 57 wb13m3_prog_8_method_7_code_r2 := wt_cs_tl (m := 29) wb13m3_prog_8_method_7_code_c1 rfl rfl
theorem wb13m3_prog_8_method_7_code_c3 : wt_cs prog_8_method_7_code 85 wb13m3_prog_8_method_7_code_r3 := wt_cs_tl (m := 28) wb13m3_prog_8_method_7_code_c2 rfl rfl
theorem wp_tx_fill_d0 : decode prog_8_method_7_code 0 = .ok (.iconst 0, 1) := wt_op3 wb13m3_prog_8_method_7_code_c0 0 rfl rfl
theorem wp_tx_fill_d1 : decode prog_8_method_7_code 1 = .ok (.istore_n 3, 1) := wt_op62 wb13m3_prog_8_method_7_code_c0 1 rfl rfl
theorem wp_tx_fill_d2 : decode prog_8_method_7_code 2 = .ok (.iload_n 3, 1) := wt_op29 wb13m3_prog_8_method_7_code_c0 2 rfl rfl
theorem wp_tx_fill_d3 : decode prog_8_method_7_code 3 = .ok (.bipush 12, 2) := wt_op16 wb13m3_prog_8_method_7_code_c0 3 rfl rfl rfl
theorem wp_tx_fill_d5 : decode prog_8_method_7_code 5 = .ok (.if_icmp .gt 100, 3) := wt_op163 wb13m3_prog_8_method_7_code_c0 5 rfl rfl rfl
theorem wp_tx_fill_d8 : decode prog_8_method_7_code 8 = .ok (.aload_n 1, 1) := wt_op43 wb13m3_prog_8_method_7_code_c0 8 rfl rfl
theorem wp_tx_fill_d9 : decode prog_8_method_7_code 9 = .ok (.invokevirtual 40, 3) := wt_op182 wb13m3_prog_8_method_7_code_c0 9 rfl rfl rfl
theorem wp_tx_fill_d12 : decode prog_8_method_7_code 12 = .ok (.ifCond .eq 22, 3) := wt_op153 wb13m3_prog_8_method_7_code_c0 12 rfl rfl rfl
theorem wp_tx_fill_d15 : decode prog_8_method_7_code 15 = .ok (.iload_n 3, 1) := wt_op29 wb13m3_prog_8_method_7_code_c0 15 rfl rfl
theorem wp_tx_fill_d16 : decode prog_8_method_7_code 16 = .ok (.ifCond .le 12, 3) := wt_op158 wb13m3_prog_8_method_7_code_c0 16 rfl rfl rfl
theorem wp_tx_fill_d19 : decode prog_8_method_7_code 19 = .ok (.aload_n 0, 1) := wt_op42 wb13m3_prog_8_method_7_code_c0 19 rfl rfl
theorem wp_tx_fill_d20 : decode prog_8_method_7_code 20 = .ok (.aload_n 2, 1) := wt_op44 wb13m3_prog_8_method_7_code_c0 20 rfl rfl
theorem wp_tx_fill_d21 : decode prog_8_method_7_code 21 = .ok (.iload_n 3, 1) := wt_op29 wb13m3_prog_8_method_7_code_c0 21 rfl rfl
theorem wp_tx_fill_d22 : decode prog_8_method_7_code 22 = .ok (.invokevirtual 46, 3) := wt_op182 wb13m3_prog_8_method_7_code_c0 22 rfl rfl rfl
theorem wp_tx_fill_d25 : decode prog_8_method_7_code 25 = .ok (.goto 8, 3) := wt_op167 wb13m3_prog_8_method_7_code_c0 25 rfl rfl rfl
theorem wp_tx_fill_d28 : decode prog_8_method_7_code 28 = .ok (.aload_n 1, 1) := wt_op43 wb13m3_prog_8_method_7_code_c1 0 rfl rfl
theorem wp_tx_fill_d29 : decode prog_8_method_7_code 29 = .ok (.iconst 1, 1) := wt_op4 wb13m3_prog_8_method_7_code_c1 1 rfl rfl
theorem wp_tx_fill_d30 : decode prog_8_method_7_code 30 = .ok (.invokevirtual 50, 3) := wt_op182 wb13m3_prog_8_method_7_code_c1 2 rfl rfl rfl
theorem wp_tx_fill_d33 : decode prog_8_method_7_code 33 = .ok (.ireturn, 1) := wt_op172 wb13m3_prog_8_method_7_code_c1 5 rfl rfl
theorem wp_tx_fill_d34 : decode prog_8_method_7_code 34 = .ok (.aload_n 1, 1) := wt_op43 wb13m3_prog_8_method_7_code_c1 6 rfl rfl
theorem wp_tx_fill_d35 : decode prog_8_method_7_code 35 = .ok (.invokevirtual 54, 3) := wt_op182 wb13m3_prog_8_method_7_code_c1 7 rfl rfl rfl
theorem wp_tx_fill_d38 : decode prog_8_method_7_code 38 = .ok (.ifCond .ne 5, 3) := wt_op154 wb13m3_prog_8_method_7_code_c1 10 rfl rfl rfl
theorem wp_tx_fill_d41 : decode prog_8_method_7_code 41 = .ok (.iconst 0, 1) := wt_op3 wb13m3_prog_8_method_7_code_c1 13 rfl rfl
theorem wp_tx_fill_d42 : decode prog_8_method_7_code 42 = .ok (.ireturn, 1) := wt_op172 wb13m3_prog_8_method_7_code_c1 14 rfl rfl
theorem wp_tx_fill_d43 : decode prog_8_method_7_code 43 = .ok (.aload_n 2, 1) := wt_op44 wb13m3_prog_8_method_7_code_c1 15 rfl rfl
theorem wp_tx_fill_d44 : decode prog_8_method_7_code 44 = .ok (.aload_n 1, 1) := wt_op43 wb13m3_prog_8_method_7_code_c1 16 rfl rfl
theorem wp_tx_fill_d45 : decode prog_8_method_7_code 45 = .ok (.getfield 57, 3) := wt_op180 wb13m3_prog_8_method_7_code_c1 17 rfl rfl rfl
theorem wp_tx_fill_d48 : decode prog_8_method_7_code 48 = .ok (.aload_n 1, 1) := wt_op43 wb13m3_prog_8_method_7_code_c1 20 rfl rfl
theorem wp_tx_fill_d49 : decode prog_8_method_7_code 49 = .ok (.invokevirtual 60, 3) := wt_op182 wb13m3_prog_8_method_7_code_c1 21 rfl rfl rfl
theorem wp_tx_fill_d52 : decode prog_8_method_7_code 52 = .ok (.invokevirtual 64, 3) := wt_op182 wb13m3_prog_8_method_7_code_c1 24 rfl rfl rfl
theorem wp_tx_fill_d55 : decode prog_8_method_7_code 55 = .ok (.istore 4, 2) := wt_op54 wb13m3_prog_8_method_7_code_c1 27 rfl rfl
theorem wp_tx_fill_d57 : decode prog_8_method_7_code 57 = .ok (.iload 4, 2) := wt_op21 wb13m3_prog_8_method_7_code_c2 0 rfl rfl
theorem wp_tx_fill_d59 : decode prog_8_method_7_code 59 = .ok (.iconst (-1), 1) := wt_op2 wb13m3_prog_8_method_7_code_c2 2 rfl rfl
theorem wp_tx_fill_d60 : decode prog_8_method_7_code 60 = .ok (.if_icmp .ne 9, 3) := wt_op160 wb13m3_prog_8_method_7_code_c2 3 rfl rfl rfl
theorem wp_tx_fill_d63 : decode prog_8_method_7_code 63 = .ok (.aload_n 1, 1) := wt_op43 wb13m3_prog_8_method_7_code_c2 6 rfl rfl
theorem wp_tx_fill_d64 : decode prog_8_method_7_code 64 = .ok (.iconst 2, 1) := wt_op5 wb13m3_prog_8_method_7_code_c2 7 rfl rfl
theorem wp_tx_fill_d65 : decode prog_8_method_7_code 65 = .ok (.invokevirtual 50, 3) := wt_op182 wb13m3_prog_8_method_7_code_c2 8 rfl rfl rfl
theorem wp_tx_fill_d68 : decode prog_8_method_7_code 68 = .ok (.ireturn, 1) := wt_op172 wb13m3_prog_8_method_7_code_c2 11 rfl rfl
theorem wp_tx_fill_d69 : decode prog_8_method_7_code 69 = .ok (.iload_n 3, 1) := wt_op29 wb13m3_prog_8_method_7_code_c2 12 rfl rfl
theorem wp_tx_fill_d70 : decode prog_8_method_7_code 70 = .ok (.bipush 12, 2) := wt_op16 wb13m3_prog_8_method_7_code_c2 13 rfl rfl rfl
theorem wp_tx_fill_d72 : decode prog_8_method_7_code 72 = .ok (.if_icmp .lt 9, 3) := wt_op161 wb13m3_prog_8_method_7_code_c2 15 rfl rfl rfl
theorem wp_tx_fill_d75 : decode prog_8_method_7_code 75 = .ok (.aload_n 1, 1) := wt_op43 wb13m3_prog_8_method_7_code_c2 18 rfl rfl
theorem wp_tx_fill_d76 : decode prog_8_method_7_code 76 = .ok (.iconst 3, 1) := wt_op6 wb13m3_prog_8_method_7_code_c2 19 rfl rfl
theorem wp_tx_fill_d77 : decode prog_8_method_7_code 77 = .ok (.invokevirtual 50, 3) := wt_op182 wb13m3_prog_8_method_7_code_c2 20 rfl rfl rfl
theorem wp_tx_fill_d80 : decode prog_8_method_7_code 80 = .ok (.ireturn, 1) := wt_op172 wb13m3_prog_8_method_7_code_c2 23 rfl rfl
theorem wp_tx_fill_d81 : decode prog_8_method_7_code 81 = .ok (.aload_n 0, 1) := wt_op42 wb13m3_prog_8_method_7_code_c2 24 rfl rfl
theorem wp_tx_fill_d82 : decode prog_8_method_7_code 82 = .ok (.getfield 9, 3) := wt_op180 wb13m3_prog_8_method_7_code_c2 25 rfl rfl rfl
theorem wp_tx_fill_d85 : decode prog_8_method_7_code 85 = .ok (.aload_n 0, 1) := wt_op42 wb13m3_prog_8_method_7_code_c3 0 rfl rfl
theorem wp_tx_fill_d86 : decode prog_8_method_7_code 86 = .ok (.getfield 24, 3) := wt_op180 wb13m3_prog_8_method_7_code_c3 1 rfl rfl rfl
theorem wp_tx_fill_d89 : decode prog_8_method_7_code 89 = .ok (.bipush 12, 2) := wt_op16 wb13m3_prog_8_method_7_code_c3 4 rfl rfl rfl
theorem wp_tx_fill_d91 : decode prog_8_method_7_code 91 = .ok (.imul, 1) := wt_op104 wb13m3_prog_8_method_7_code_c3 6 rfl rfl
theorem wp_tx_fill_d92 : decode prog_8_method_7_code 92 = .ok (.iload_n 3, 1) := wt_op29 wb13m3_prog_8_method_7_code_c3 7 rfl rfl
theorem wp_tx_fill_d93 : decode prog_8_method_7_code 93 = .ok (.iadd, 1) := wt_op96 wb13m3_prog_8_method_7_code_c3 8 rfl rfl
theorem wp_tx_fill_d94 : decode prog_8_method_7_code 94 = .ok (.iload 4, 2) := wt_op21 wb13m3_prog_8_method_7_code_c3 9 rfl rfl
theorem wp_tx_fill_d96 : decode prog_8_method_7_code 96 = .ok (.invokestatic 69, 3) := wt_op184 wb13m3_prog_8_method_7_code_c3 11 rfl rfl rfl
theorem wp_tx_fill_d99 : decode prog_8_method_7_code 99 = .ok (.iinc 3 1, 3) := wt_op132 wb13m3_prog_8_method_7_code_c3 14 rfl rfl rfl
theorem wp_tx_fill_d102 : decode prog_8_method_7_code 102 = .ok (.goto (-100), 3) := wt_op167 wb13m3_prog_8_method_7_code_c3 17 rfl rfl rfl
theorem wp_tx_fill_d105 : decode prog_8_method_7_code 105 = .ok (.iconst 0, 1) := wt_op3 wb13m3_prog_8_method_7_code_c3 20 rfl rfl
theorem wp_tx_fill_d106 : decode prog_8_method_7_code 106 = .ok (.ireturn, 1) := wt_op172 wb13m3_prog_8_method_7_code_c3 21 rfl rfl
noncomputable def wp_tx_fill_B2 (n : Nat) (t2 : Nat) (K2 : Int32 × wt_St → Option (Int32 × wt_St)) (s : Int32 × wt_St) : Option (Int32 × wt_St) :=
  if (12 : Int32) < s.1 then
    some ((0 : Int32), s.2)
  else
    (wp_tp_over n s.2).bind fun q2 =>
    if q2.1 = 0 then
      (wp_tp_takeWord n q2.2).bind fun q4 =>
      if q4.1 = 0 then
        some ((0 : Int32), q4.2)
      else
        (wp_tp_wordLength n q4.2).bind fun q6 =>
        (wp_tg_find n t2 3 q6.1 q6.2).bind fun q7 =>
        if q7.1 = (-1 : Int32) then
          (wp_tp_fail n (2 : Int32) q7.2).bind fun q12 =>
          some (q12.1, q12.2)
        else
          if s.1 < (12 : Int32) then
            (wp_ap_put n 35 (((wt_gf q7.2 34 4) * (12 : Int32)) + s.1) q7.1 q7.2).bind fun q10 =>
            K2 ((s.1 + (1 : Int32)), q10)
          else
            (wp_tp_fail n (3 : Int32) q7.2).bind fun q11 =>
            some (q11.1, q11.2)
    else
      if s.1 ≤ 0 then
        (wp_tp_fail n (1 : Int32) q2.2).bind fun q14 =>
        some (q14.1, q14.2)
      else
        (wp_tx_close n t2 s.1 q2.2).bind fun q15 =>
        some (q15.1, q15.2)
set_option maxRecDepth 100000 in
set_option maxHeartbeats 4000000 in
theorem wp_tx_fill_B2_ok  {t2 : Nat} {X : wt_X} {n : Nat} {res : Int32 × wt_St} (hE : wt_Ok X prog_8_method_7_code 5 "WornType$Texts" 4 0) (hR : wt_Rt X (some .boolean) (some res.1) res.2) (hD : ∀ i, i < 108 → wt_dom (wt_xw X) i) (hI_t2 : wt_isTongue t2) (hT_t2 : ∀ j, j < 7 → wt_dom (wt_xw X) (t2 + j)) {K2 : Int32 × wt_St → Option (Int32 × wt_St)} (hK2 : ∀ s : Int32 × wt_St, K2 s = some res → wt_V X 0 s.2 2 [some (.ref (wt_ad (wt_xw X) 34)), some (.ref (wt_ad (wt_xw X) 1)), some (.ref (wt_ad (wt_xw X) t2)), some (.int s.1), none] []) {s : Int32 × wt_St} (h : wp_tx_fill_B2 n t2 K2 s = some res) : wt_V X 0 s.2 2 [some (.ref (wt_ad (wt_xw X) 34)), some (.ref (wt_ad (wt_xw X) 1)), some (.ref (wt_ad (wt_xw X) t2)), some (.int s.1), none] [] := by
  unfold wp_tx_fill_B2 at h
  refine wt_iload_n hE wp_tx_fill_d2 rfl ?_
  refine wt_bipush hE (12 : Int32) wp_tx_fill_d3 wt_cb_12 ?_
  refine wt_icmp_gt hE 105 wp_tx_fill_d5 rfl (fun c1 => ?_) (fun c1 => ?_)
  · have h := wt_ip c1 h
    refine wt_iconst hE (0 : Int32) wp_tx_fill_d105 wt_ci_0 ?_
    cases h
    exact wt_zret hE (by decide) hR wp_tx_fill_d106
  · have h := wt_in c1 h
    refine wt_aload_n hE wp_tx_fill_d8 rfl ?_
    obtain ⟨q2, hq2, h⟩ := wt_bi h
    refine wt_callVi hE [] wt_lm_tx_40 wt_ya_tp_over (wp_tp_over_ok hD hq2) (by omega) (hD 1 (Nat.le_of_ble_eq_true rfl)) wt_L1 rfl rfl rfl (Nat.le_of_ble_eq_true rfl) (Nat.zero_le _) wp_tx_fill_d9 (fun hbq2 => ?_)
    refine wt_if_eq hE 34 wp_tx_fill_d12 rfl (fun c3 => ?_) (fun c3 => ?_)
    · have h := wt_ip c3 h
      refine wt_aload_n hE wp_tx_fill_d34 rfl ?_
      obtain ⟨q4, hq4, h⟩ := wt_bi h
      refine wt_callVi hE [] wt_lm_tx_54 wt_ya_tp_takeWord (wp_tp_takeWord_ok hD hq4) (by omega) (hD 1 (Nat.le_of_ble_eq_true rfl)) wt_L1 rfl rfl rfl (Nat.le_of_ble_eq_true rfl) (Nat.zero_le _) wp_tx_fill_d35 (fun hbq4 => ?_)
      refine wt_if_ne hE 43 wp_tx_fill_d38 rfl (fun c5 => ?_) (fun c5 => ?_)
      · have h := wt_in c5 h
        refine wt_aload_n hE wp_tx_fill_d43 rfl ?_
        refine wt_aload_n hE wp_tx_fill_d44 rfl ?_
        refine wt_getr hE (r := 3) wt_lf_tx_57 (hD 1 (Nat.le_of_ble_eq_true rfl)) wt_L1 rfl wp_tx_fill_d45 ?_
        refine wt_aload_n hE wp_tx_fill_d48 rfl ?_
        obtain ⟨q6, hq6, h⟩ := wt_bi h
        refine wt_callVi hE [] wt_lm_tx_60 wt_ya_tp_wordLength (wp_tp_wordLength_ok hD hq6) (by omega) (hD 1 (Nat.le_of_ble_eq_true rfl)) wt_L1 rfl rfl rfl (Nat.le_of_ble_eq_true rfl) (Nat.zero_le _) wp_tx_fill_d49 (fun hbq6 => ?_)
        obtain ⟨q7, hq7, h⟩ := wt_bi h
        refine wt_callVi hE [.ref (wt_ad (wt_xw X) 3), .int q6.1] wt_lm_tx_64 wt_ya_tg_find (wp_tg_find_ok hI_t2 hT_t2 (wt_lnE wt_L3) (hD 3 (Nat.le_of_ble_eq_true rfl)) hq7) (by omega) (hT_t2 0 (Nat.le_of_ble_eq_true rfl)) (hI_t2.1) rfl rfl rfl (Nat.le_of_ble_eq_true rfl) (Nat.zero_le _) wp_tx_fill_d52 (fun hbq7 => ?_)
        refine wt_istore hE [some (.ref (wt_ad (wt_xw X) 34)), some (.ref (wt_ad (wt_xw X) 1)), some (.ref (wt_ad (wt_xw X) t2)), some (.int s.1), some (.int q7.1)] wp_tx_fill_d55 (Nat.le_of_ble_eq_true rfl) rfl ?_
        refine wt_iload hE wp_tx_fill_d57 rfl ?_
        refine wt_iconst hE (-1 : Int32) wp_tx_fill_d59 wt_ci_m1 ?_
        refine wt_icmp_ne hE 69 wp_tx_fill_d60 rfl (fun c8 => ?_) (fun c8 => ?_)
        · have h := wt_in c8 h
          refine wt_iload_n hE wp_tx_fill_d69 rfl ?_
          refine wt_bipush hE (12 : Int32) wp_tx_fill_d70 wt_cb_12 ?_
          refine wt_icmp_lt hE 81 wp_tx_fill_d72 rfl (fun c9 => ?_) (fun c9 => ?_)
          · have h := wt_ip c9 h
            refine wt_aload_n hE wp_tx_fill_d81 rfl ?_
            refine wt_getr hE (r := 35) wt_lf_tx_9 (hD 34 (Nat.le_of_ble_eq_true rfl)) wt_L34 rfl wp_tx_fill_d82 ?_
            refine wt_aload_n hE wp_tx_fill_d85 rfl ?_
            refine wt_geti hE wt_lf_tx_24 (hD 34 (Nat.le_of_ble_eq_true rfl)) wt_L34 rfl wp_tx_fill_d86 ?_
            refine wt_bipush hE (12 : Int32) wp_tx_fill_d89 wt_cb_12 ?_
            refine wt_imul hE wp_tx_fill_d91 ?_
            refine wt_iload_n hE wp_tx_fill_d92 rfl ?_
            refine wt_iadd hE wp_tx_fill_d93 ?_
            refine wt_iload hE wp_tx_fill_d94 rfl ?_
            obtain ⟨q10, hq10, h⟩ := wt_bi h
            refine wt_callSv hE [.ref (wt_ad (wt_xw X) 35), .int (((wt_gf q7.2 34 4) * (12 : Int32)) + s.1), .int q7.1] wt_lm_tx_69 wt_ya_ap_put (wp_ap_put_ok (wt_lnE wt_L35) (hD 35 (Nat.le_of_ble_eq_true rfl)) hq10) (by omega) rfl rfl (Nat.le_of_ble_eq_true rfl) (Nat.zero_le _) wp_tx_fill_d96 ?_
            refine wt_iinc hE (s.1 + (1 : Int32)) [some (.ref (wt_ad (wt_xw X) 34)), some (.ref (wt_ad (wt_xw X) 1)), some (.ref (wt_ad (wt_xw X) t2)), some (.int (s.1 + (1 : Int32))), some (.int q7.1)] wp_tx_fill_d99 (by decide) rfl rfl rfl ?_
            refine wt_goto hE 2 wp_tx_fill_d102 rfl ?_
            refine wt_wk [true, true, true, true, false] rfl ?_
            exact hK2 ((s.1 + (1 : Int32)), q10) h
          · have h := wt_in c9 h
            refine wt_aload_n hE wp_tx_fill_d75 rfl ?_
            refine wt_iconst hE (3 : Int32) wp_tx_fill_d76 wt_ci_3 ?_
            obtain ⟨q11, hq11, h⟩ := wt_bi h
            refine wt_callVi hE [.int (3 : Int32)] wt_lm_tx_50 wt_ya_tp_fail (wp_tp_fail_ok hD hq11) (by omega) (hD 1 (Nat.le_of_ble_eq_true rfl)) wt_L1 rfl rfl rfl (Nat.le_of_ble_eq_true rfl) (Nat.zero_le _) wp_tx_fill_d77 (fun hbq11 => ?_)
            cases h
            exact wt_zret hE (hbq11 rfl _ rfl) hR wp_tx_fill_d80
        · have h := wt_ip c8 h
          refine wt_aload_n hE wp_tx_fill_d63 rfl ?_
          refine wt_iconst hE (2 : Int32) wp_tx_fill_d64 wt_ci_2 ?_
          obtain ⟨q12, hq12, h⟩ := wt_bi h
          refine wt_callVi hE [.int (2 : Int32)] wt_lm_tx_50 wt_ya_tp_fail (wp_tp_fail_ok hD hq12) (by omega) (hD 1 (Nat.le_of_ble_eq_true rfl)) wt_L1 rfl rfl rfl (Nat.le_of_ble_eq_true rfl) (Nat.zero_le _) wp_tx_fill_d65 (fun hbq12 => ?_)
          cases h
          exact wt_zret hE (hbq12 rfl _ rfl) hR wp_tx_fill_d68
      · have h := wt_ip c5 h
        refine wt_iconst hE (0 : Int32) wp_tx_fill_d41 wt_ci_0 ?_
        cases h
        exact wt_zret hE (by decide) hR wp_tx_fill_d42
    · have h := wt_in c3 h
      refine wt_iload_n hE wp_tx_fill_d15 rfl ?_
      refine wt_if_le hE 28 wp_tx_fill_d16 rfl (fun c13 => ?_) (fun c13 => ?_)
      · have h := wt_ip c13 h
        refine wt_aload_n hE wp_tx_fill_d28 rfl ?_
        refine wt_iconst hE (1 : Int32) wp_tx_fill_d29 wt_ci_1 ?_
        obtain ⟨q14, hq14, h⟩ := wt_bi h
        refine wt_callVi hE [.int (1 : Int32)] wt_lm_tx_50 wt_ya_tp_fail (wp_tp_fail_ok hD hq14) (by omega) (hD 1 (Nat.le_of_ble_eq_true rfl)) wt_L1 rfl rfl rfl (Nat.le_of_ble_eq_true rfl) (Nat.zero_le _) wp_tx_fill_d30 (fun hbq14 => ?_)
        cases h
        exact wt_zret hE (hbq14 rfl _ rfl) hR wp_tx_fill_d33
      · have h := wt_in c13 h
        refine wt_aload_n hE wp_tx_fill_d19 rfl ?_
        refine wt_aload_n hE wp_tx_fill_d20 rfl ?_
        refine wt_iload_n hE wp_tx_fill_d21 rfl ?_
        obtain ⟨q15, hq15, h⟩ := wt_bi h
        refine wt_callVi hE [.ref (wt_ad (wt_xw X) t2), .int s.1] wt_lm_tx_46 wt_ya_tx_close (wp_tx_close_ok hD hI_t2 hT_t2 hq15) (by omega) (hD 34 (Nat.le_of_ble_eq_true rfl)) wt_L34 rfl rfl rfl (Nat.le_of_ble_eq_true rfl) (Nat.zero_le _) wp_tx_fill_d22 (fun hbq15 => ?_)
        refine wt_goto hE 33 wp_tx_fill_d25 rfl ?_
        cases h
        exact wt_zret hE (hbq15 rfl _ rfl) hR wp_tx_fill_d33
noncomputable def wp_tx_fill (n : Nat) (t2 : Nat) (σ : wt_St) : Option (Int32 × wt_St) :=
  wt_it (wp_tx_fill_B2 n t2) n ((0 : Int32), σ)
set_option maxRecDepth 100000 in
set_option maxHeartbeats 4000000 in
theorem wp_tx_fill_ok {l : Launch} {w : wt_E} {n : Nat} {t2 : Nat} (hD : ∀ i, i < 108 → wt_dom w i) (hI_t2 : wt_isTongue t2) (hT_t2 : ∀ j, j < 7 → wt_dom w (t2 + j)) {σ : wt_St} {q : Int32 × wt_St} (h : wp_tx_fill n t2 σ = some q) : wt_Ctr l w wt_y_tx_fill prog_8_method_7_code 5 (some .boolean) 4 [.ref (wt_ad w 34), .ref (wt_ad w 1), .ref (wt_ad w t2)] σ (some q.1) q.2 := by
  refine wt_ctr wt_pl_tx_fill rfl (Nat.le_of_ble_eq_true rfl) [some (.ref (wt_ad w 34)), some (.ref (wt_ad w 1)), some (.ref (wt_ad w t2)), none, none] rfl ?_
  intro X hXl hXw hE hR
  subst hXl
  subst hXw
  have hE : wt_Ok X prog_8_method_7_code 5 "WornType$Texts" 4 0 := hE
  unfold wp_tx_fill at h
  refine wt_iconst hE (0 : Int32) wp_tx_fill_d0 wt_ci_0 ?_
  refine wt_istore_n hE [some (.ref (wt_ad (wt_xw X) 34)), some (.ref (wt_ad (wt_xw X) 1)), some (.ref (wt_ad (wt_xw X) t2)), some (.int (0 : Int32)), none] wp_tx_fill_d1 (by decide) rfl ?_
  exact wt_it_ind (fun z => wt_V X 0 z.2 2 [some (.ref (wt_ad (wt_xw X) 34)), some (.ref (wt_ad (wt_xw X) 1)), some (.ref (wt_ad (wt_xw X) t2)), some (.int z.1), none] []) (fun K hK z h => wp_tx_fill_B2_ok hE hR hD hI_t2 hT_t2 hK h) n ((0 : Int32), σ) h
def wb13m3_prog_10_method_5_code_r2 : List (List Nat) := [167, 255, 214, 29, 42, 180, 0, 40, 28, 46, 164, 0, 5, 3, 172, 132, 2, 1, 167, 255, 182, 4, 172] :: []
def wb13m3_prog_10_method_5_code_r1 : List (List Nat) := [29, 27, 21, 4, 122, 4, 126, 4, 160, 0, 16, 42, 180, 0, 15, 21, 4, 28, 182, 0, 92, 167, 0, 4, 3, 96, 62, 132, 4, 1] :: wb13m3_prog_10_method_5_code_r2
def wb13m3_prog_10_method_5_code_r0 : List (List Nat) := [3, 61, 28, 42, 180, 0, 40, 190, 162, 0, 71, 3, 62, 3, 54, 4, 21, 4, 42, 180, 0, 15, 180, 0, 77, 162, 0, 36] :: wb13m3_prog_10_method_5_code_r1
set_option maxRecDepth 100000 in
theorem wb13m3_prog_10_method_5_code_c0 : wt_cs prog_10_method_5_code 0 wb13m3_prog_10_method_5_code_r0 := wt_cs_of (by decide +kernel)
theorem wb13m3_prog_10_method_5_code_c1 : wt_cs prog_10_method_5_code 28 wb13m3_prog_10_method_5_code_r1 := wt_cs_tl (m := 28) wb13m3_prog_10_method_5_code_c0 rfl rfl
theorem wb13m3_prog_10_method_5_code_c2 : wt_cs prog_10_method_5_code 58 wb13m3_prog_10_method_5_code_r2 := wt_cs_tl (m := 30) wb13m3_prog_10_method_5_code_c1 rfl rfl
theorem wp_tr_standAtOnce_d0 : decode prog_10_method_5_code 0 = .ok (.iconst 0, 1) := wt_op3 wb13m3_prog_10_method_5_code_c0 0 rfl rfl
theorem wp_tr_standAtOnce_d1 : decode prog_10_method_5_code 1 = .ok (.istore_n 2, 1) := wt_op61 wb13m3_prog_10_method_5_code_c0 1 rfl rfl
theorem wp_tr_standAtOnce_d2 : decode prog_10_method_5_code 2 = .ok (.iload_n 2, 1) := wt_op28 wb13m3_prog_10_method_5_code_c0 2 rfl rfl
theorem wp_tr_standAtOnce_d3 : decode prog_10_method_5_code 3 = .ok (.aload_n 0, 1) := wt_op42 wb13m3_prog_10_method_5_code_c0 3 rfl rfl
theorem wp_tr_standAtOnce_d4 : decode prog_10_method_5_code 4 = .ok (.getfield 40, 3) := wt_op180 wb13m3_prog_10_method_5_code_c0 4 rfl rfl rfl
theorem wp_tr_standAtOnce_d7 : decode prog_10_method_5_code 7 = .ok (.arraylength, 1) := wt_op190 wb13m3_prog_10_method_5_code_c0 7 rfl rfl
theorem wp_tr_standAtOnce_d8 : decode prog_10_method_5_code 8 = .ok (.if_icmp .ge 71, 3) := wt_op162 wb13m3_prog_10_method_5_code_c0 8 rfl rfl rfl
theorem wp_tr_standAtOnce_d11 : decode prog_10_method_5_code 11 = .ok (.iconst 0, 1) := wt_op3 wb13m3_prog_10_method_5_code_c0 11 rfl rfl
theorem wp_tr_standAtOnce_d12 : decode prog_10_method_5_code 12 = .ok (.istore_n 3, 1) := wt_op62 wb13m3_prog_10_method_5_code_c0 12 rfl rfl
theorem wp_tr_standAtOnce_d13 : decode prog_10_method_5_code 13 = .ok (.iconst 0, 1) := wt_op3 wb13m3_prog_10_method_5_code_c0 13 rfl rfl
theorem wp_tr_standAtOnce_d14 : decode prog_10_method_5_code 14 = .ok (.istore 4, 2) := wt_op54 wb13m3_prog_10_method_5_code_c0 14 rfl rfl
theorem wp_tr_standAtOnce_d16 : decode prog_10_method_5_code 16 = .ok (.iload 4, 2) := wt_op21 wb13m3_prog_10_method_5_code_c0 16 rfl rfl
theorem wp_tr_standAtOnce_d18 : decode prog_10_method_5_code 18 = .ok (.aload_n 0, 1) := wt_op42 wb13m3_prog_10_method_5_code_c0 18 rfl rfl
theorem wp_tr_standAtOnce_d19 : decode prog_10_method_5_code 19 = .ok (.getfield 15, 3) := wt_op180 wb13m3_prog_10_method_5_code_c0 19 rfl rfl rfl
theorem wp_tr_standAtOnce_d22 : decode prog_10_method_5_code 22 = .ok (.getfield 77, 3) := wt_op180 wb13m3_prog_10_method_5_code_c0 22 rfl rfl rfl
theorem wp_tr_standAtOnce_d25 : decode prog_10_method_5_code 25 = .ok (.if_icmp .ge 36, 3) := wt_op162 wb13m3_prog_10_method_5_code_c0 25 rfl rfl rfl
theorem wp_tr_standAtOnce_d28 : decode prog_10_method_5_code 28 = .ok (.iload_n 3, 1) := wt_op29 wb13m3_prog_10_method_5_code_c1 0 rfl rfl
theorem wp_tr_standAtOnce_d29 : decode prog_10_method_5_code 29 = .ok (.iload_n 1, 1) := wt_op27 wb13m3_prog_10_method_5_code_c1 1 rfl rfl
theorem wp_tr_standAtOnce_d30 : decode prog_10_method_5_code 30 = .ok (.iload 4, 2) := wt_op21 wb13m3_prog_10_method_5_code_c1 2 rfl rfl
theorem wp_tr_standAtOnce_d32 : decode prog_10_method_5_code 32 = .ok (.ishr, 1) := wt_op122 wb13m3_prog_10_method_5_code_c1 4 rfl rfl
theorem wp_tr_standAtOnce_d33 : decode prog_10_method_5_code 33 = .ok (.iconst 1, 1) := wt_op4 wb13m3_prog_10_method_5_code_c1 5 rfl rfl
theorem wp_tr_standAtOnce_d34 : decode prog_10_method_5_code 34 = .ok (.iand, 1) := wt_op126 wb13m3_prog_10_method_5_code_c1 6 rfl rfl
theorem wp_tr_standAtOnce_d35 : decode prog_10_method_5_code 35 = .ok (.iconst 1, 1) := wt_op4 wb13m3_prog_10_method_5_code_c1 7 rfl rfl
theorem wp_tr_standAtOnce_d36 : decode prog_10_method_5_code 36 = .ok (.if_icmp .ne 16, 3) := wt_op160 wb13m3_prog_10_method_5_code_c1 8 rfl rfl rfl
theorem wp_tr_standAtOnce_d39 : decode prog_10_method_5_code 39 = .ok (.aload_n 0, 1) := wt_op42 wb13m3_prog_10_method_5_code_c1 11 rfl rfl
theorem wp_tr_standAtOnce_d40 : decode prog_10_method_5_code 40 = .ok (.getfield 15, 3) := wt_op180 wb13m3_prog_10_method_5_code_c1 12 rfl rfl rfl
theorem wp_tr_standAtOnce_d43 : decode prog_10_method_5_code 43 = .ok (.iload 4, 2) := wt_op21 wb13m3_prog_10_method_5_code_c1 15 rfl rfl
theorem wp_tr_standAtOnce_d45 : decode prog_10_method_5_code 45 = .ok (.iload_n 2, 1) := wt_op28 wb13m3_prog_10_method_5_code_c1 17 rfl rfl
theorem wp_tr_standAtOnce_d46 : decode prog_10_method_5_code 46 = .ok (.invokevirtual 92, 3) := wt_op182 wb13m3_prog_10_method_5_code_c1 18 rfl rfl rfl
theorem wp_tr_standAtOnce_d49 : decode prog_10_method_5_code 49 = .ok (.goto 4, 3) := wt_op167 wb13m3_prog_10_method_5_code_c1 21 rfl rfl rfl
theorem wp_tr_standAtOnce_d52 : decode prog_10_method_5_code 52 = .ok (.iconst 0, 1) := wt_op3 wb13m3_prog_10_method_5_code_c1 24 rfl rfl
theorem wp_tr_standAtOnce_d53 : decode prog_10_method_5_code 53 = .ok (.iadd, 1) := wt_op96 wb13m3_prog_10_method_5_code_c1 25 rfl rfl
theorem wp_tr_standAtOnce_d54 : decode prog_10_method_5_code 54 = .ok (.istore_n 3, 1) := wt_op62 wb13m3_prog_10_method_5_code_c1 26 rfl rfl
theorem wp_tr_standAtOnce_d55 : decode prog_10_method_5_code 55 = .ok (.iinc 4 1, 3) := wt_op132 wb13m3_prog_10_method_5_code_c1 27 rfl rfl rfl
theorem wp_tr_standAtOnce_d58 : decode prog_10_method_5_code 58 = .ok (.goto (-42), 3) := wt_op167 wb13m3_prog_10_method_5_code_c2 0 rfl rfl rfl
theorem wp_tr_standAtOnce_d61 : decode prog_10_method_5_code 61 = .ok (.iload_n 3, 1) := wt_op29 wb13m3_prog_10_method_5_code_c2 3 rfl rfl
theorem wp_tr_standAtOnce_d62 : decode prog_10_method_5_code 62 = .ok (.aload_n 0, 1) := wt_op42 wb13m3_prog_10_method_5_code_c2 4 rfl rfl
theorem wp_tr_standAtOnce_d63 : decode prog_10_method_5_code 63 = .ok (.getfield 40, 3) := wt_op180 wb13m3_prog_10_method_5_code_c2 5 rfl rfl rfl
theorem wp_tr_standAtOnce_d66 : decode prog_10_method_5_code 66 = .ok (.iload_n 2, 1) := wt_op28 wb13m3_prog_10_method_5_code_c2 8 rfl rfl
theorem wp_tr_standAtOnce_d67 : decode prog_10_method_5_code 67 = .ok (.iaload, 1) := wt_op46 wb13m3_prog_10_method_5_code_c2 9 rfl rfl
theorem wp_tr_standAtOnce_d68 : decode prog_10_method_5_code 68 = .ok (.if_icmp .le 5, 3) := wt_op164 wb13m3_prog_10_method_5_code_c2 10 rfl rfl rfl
theorem wp_tr_standAtOnce_d71 : decode prog_10_method_5_code 71 = .ok (.iconst 0, 1) := wt_op3 wb13m3_prog_10_method_5_code_c2 13 rfl rfl
theorem wp_tr_standAtOnce_d72 : decode prog_10_method_5_code 72 = .ok (.ireturn, 1) := wt_op172 wb13m3_prog_10_method_5_code_c2 14 rfl rfl
theorem wp_tr_standAtOnce_d73 : decode prog_10_method_5_code 73 = .ok (.iinc 2 1, 3) := wt_op132 wb13m3_prog_10_method_5_code_c2 15 rfl rfl rfl
theorem wp_tr_standAtOnce_d76 : decode prog_10_method_5_code 76 = .ok (.goto (-74), 3) := wt_op167 wb13m3_prog_10_method_5_code_c2 18 rfl rfl rfl
theorem wp_tr_standAtOnce_d79 : decode prog_10_method_5_code 79 = .ok (.iconst 1, 1) := wt_op4 wb13m3_prog_10_method_5_code_c2 21 rfl rfl
theorem wp_tr_standAtOnce_d80 : decode prog_10_method_5_code 80 = .ok (.ireturn, 1) := wt_op172 wb13m3_prog_10_method_5_code_c2 22 rfl rfl
noncomputable def wp_tr_standAtOnce_B53 (n : Nat) (x1 : Int32) (x2 : Int32) (x4 : Int32) (K2 : Int32 × wt_St → Option (Int32 × wt_St)) (K16 : Int32 × Int32 × wt_St → Option (Int32 × wt_St)) (y0 : Int32) (y1 : Int32) (σ : wt_St) : Option (Int32 × wt_St) :=
  K16 ((y0 + y1), (x4 + (1 : Int32)), σ)
set_option maxRecDepth 100000 in
set_option maxHeartbeats 4000000 in
theorem wp_tr_standAtOnce_B53_ok  {x1 : Int32} {x2 : Int32} {x4 : Int32} {X : wt_X} {n : Nat} {res : Int32 × wt_St} (hE : wt_Ok X prog_10_method_5_code 5 "WornType$Trade" 2 0) (hR : wt_Rt X (some .boolean) (some res.1) res.2) (hD : ∀ i, i < 108 → wt_dom (wt_xw X) i)  {K2 : Int32 × wt_St → Option (Int32 × wt_St)} (hK2 : ∀ s : Int32 × wt_St, K2 s = some res → wt_V X 0 s.2 2 [some (.ref (wt_ad (wt_xw X) 101)), some (.int x1), some (.int s.1), none, none] []) {K16 : Int32 × Int32 × wt_St → Option (Int32 × wt_St)} (hK16 : ∀ s : Int32 × Int32 × wt_St, K16 s = some res → wt_V X 0 s.2.2 16 [some (.ref (wt_ad (wt_xw X) 101)), some (.int x1), some (.int x2), some (.int s.1), some (.int s.2.1)] []) {σ : wt_St} {y0 : Int32} {y1 : Int32} (h : wp_tr_standAtOnce_B53 n x1 x2 x4 K2 K16 y0 y1 σ = some res) : wt_V X 0 σ 53 [some (.ref (wt_ad (wt_xw X) 101)), some (.int x1), some (.int x2), none, some (.int x4)] [.int y1, .int y0] := by
  unfold wp_tr_standAtOnce_B53 at h
  refine wt_iadd hE wp_tr_standAtOnce_d53 ?_
  refine wt_istore_n hE [some (.ref (wt_ad (wt_xw X) 101)), some (.int x1), some (.int x2), some (.int (y0 + y1)), some (.int x4)] wp_tr_standAtOnce_d54 (by decide) rfl ?_
  refine wt_iinc hE (x4 + (1 : Int32)) [some (.ref (wt_ad (wt_xw X) 101)), some (.int x1), some (.int x2), some (.int (y0 + y1)), some (.int (x4 + (1 : Int32)))] wp_tr_standAtOnce_d55 (by decide) rfl rfl rfl ?_
  refine wt_goto hE 16 wp_tr_standAtOnce_d58 rfl ?_
  exact hK16 ((y0 + y1), (x4 + (1 : Int32)), σ) h
noncomputable def wp_tr_standAtOnce_B16 (n : Nat) (x1 : Int32) (x2 : Int32) (K2 : Int32 × wt_St → Option (Int32 × wt_St)) (K16 : Int32 × Int32 × wt_St → Option (Int32 × wt_St)) (s : Int32 × Int32 × wt_St) : Option (Int32 × wt_St) :=
  if (wt_gf s.2.2 34 4) ≤ s.2.1 then
    if x2 < 0 ∨ 26 ≤ Int32.toNatClampNeg x2 then none else
    if s.1 ≤ (wt_ga s.2.2 106 (Int32.toNatClampNeg x2)) then
      K2 ((x2 + (1 : Int32)), s.2.2)
    else
      some ((0 : Int32), s.2.2)
  else
    if ((x1 >>> (s.2.1 &&& 31)) &&& (1 : Int32)) = (1 : Int32) then
      (wp_tx_needOf n s.2.1 x2 s.2.2).bind fun q6 =>
      wp_tr_standAtOnce_B53 n x1 x2 s.2.1 K2 K16 s.1 q6.1 q6.2
    else
      wp_tr_standAtOnce_B53 n x1 x2 s.2.1 K2 K16 s.1 (0 : Int32) s.2.2
set_option maxRecDepth 100000 in
set_option maxHeartbeats 4000000 in
theorem wp_tr_standAtOnce_B16_ok  {x1 : Int32} {x2 : Int32} {X : wt_X} {n : Nat} {res : Int32 × wt_St} (hE : wt_Ok X prog_10_method_5_code 5 "WornType$Trade" 2 0) (hR : wt_Rt X (some .boolean) (some res.1) res.2) (hD : ∀ i, i < 108 → wt_dom (wt_xw X) i)  {K2 : Int32 × wt_St → Option (Int32 × wt_St)} (hK2 : ∀ s : Int32 × wt_St, K2 s = some res → wt_V X 0 s.2 2 [some (.ref (wt_ad (wt_xw X) 101)), some (.int x1), some (.int s.1), none, none] []) {K16 : Int32 × Int32 × wt_St → Option (Int32 × wt_St)} (hK16 : ∀ s : Int32 × Int32 × wt_St, K16 s = some res → wt_V X 0 s.2.2 16 [some (.ref (wt_ad (wt_xw X) 101)), some (.int x1), some (.int x2), some (.int s.1), some (.int s.2.1)] []) {s : Int32 × Int32 × wt_St} (h : wp_tr_standAtOnce_B16 n x1 x2 K2 K16 s = some res) : wt_V X 0 s.2.2 16 [some (.ref (wt_ad (wt_xw X) 101)), some (.int x1), some (.int x2), some (.int s.1), some (.int s.2.1)] [] := by
  unfold wp_tr_standAtOnce_B16 at h
  refine wt_iload hE wp_tr_standAtOnce_d16 rfl ?_
  refine wt_aload_n hE wp_tr_standAtOnce_d18 rfl ?_
  refine wt_getr hE (r := 34) wt_lf_tr_15 (hD 101 (Nat.le_of_ble_eq_true rfl)) wt_L101 rfl wp_tr_standAtOnce_d19 ?_
  refine wt_geti hE wt_lf_tr_77 (hD 34 (Nat.le_of_ble_eq_true rfl)) wt_L34 rfl wp_tr_standAtOnce_d22 ?_
  refine wt_icmp_ge hE 61 wp_tr_standAtOnce_d25 rfl (fun c2 => ?_) (fun c2 => ?_)
  · have h := wt_ip c2 h
    refine wt_iload_n hE wp_tr_standAtOnce_d61 rfl ?_
    refine wt_aload_n hE wp_tr_standAtOnce_d62 rfl ?_
    refine wt_getr hE (r := 106) wt_lf_tr_40 (hD 101 (Nat.le_of_ble_eq_true rfl)) wt_L101 rfl wp_tr_standAtOnce_d63 ?_
    refine wt_iload_n hE wp_tr_standAtOnce_d66 rfl ?_
    obtain ⟨g3, h⟩ := wt_gd h
    refine wt_iald hE (hD 106 (Nat.le_of_ble_eq_true rfl)) wt_L106 g3 wp_tr_standAtOnce_d67 ?_
    refine wt_icmp_le hE 73 wp_tr_standAtOnce_d68 rfl (fun c4 => ?_) (fun c4 => ?_)
    · have h := wt_ip c4 h
      refine wt_iinc hE (x2 + (1 : Int32)) [some (.ref (wt_ad (wt_xw X) 101)), some (.int x1), some (.int (x2 + (1 : Int32))), some (.int s.1), some (.int s.2.1)] wp_tr_standAtOnce_d73 (by decide) rfl rfl rfl ?_
      refine wt_goto hE 2 wp_tr_standAtOnce_d76 rfl ?_
      refine wt_wk [true, true, true, false, false] rfl ?_
      exact hK2 ((x2 + (1 : Int32)), s.2.2) h
    · have h := wt_in c4 h
      refine wt_iconst hE (0 : Int32) wp_tr_standAtOnce_d71 wt_ci_0 ?_
      cases h
      exact wt_zret hE (by decide) hR wp_tr_standAtOnce_d72
  · have h := wt_in c2 h
    refine wt_iload_n hE wp_tr_standAtOnce_d28 rfl ?_
    refine wt_iload_n hE wp_tr_standAtOnce_d29 rfl ?_
    refine wt_iload hE wp_tr_standAtOnce_d30 rfl ?_
    refine wt_ishr hE wp_tr_standAtOnce_d32 ?_
    refine wt_iconst hE (1 : Int32) wp_tr_standAtOnce_d33 wt_ci_1 ?_
    refine wt_iand hE wp_tr_standAtOnce_d34 ?_
    refine wt_iconst hE (1 : Int32) wp_tr_standAtOnce_d35 wt_ci_1 ?_
    refine wt_icmp_ne hE 52 wp_tr_standAtOnce_d36 rfl (fun c5 => ?_) (fun c5 => ?_)
    · have h := wt_in c5 h
      refine wt_iconst hE (0 : Int32) wp_tr_standAtOnce_d52 wt_ci_0 ?_
      refine wt_wk [true, true, true, false, true] rfl ?_
      exact wp_tr_standAtOnce_B53_ok hE hR hD hK2 hK16 h
    · have h := wt_ip c5 h
      refine wt_aload_n hE wp_tr_standAtOnce_d39 rfl ?_
      refine wt_getr hE (r := 34) wt_lf_tr_15 (hD 101 (Nat.le_of_ble_eq_true rfl)) wt_L101 rfl wp_tr_standAtOnce_d40 ?_
      refine wt_iload hE wp_tr_standAtOnce_d43 rfl ?_
      refine wt_iload_n hE wp_tr_standAtOnce_d45 rfl ?_
      obtain ⟨q6, hq6, h⟩ := wt_bi h
      refine wt_callVi hE [.int s.2.1, .int x2] wt_lm_tr_92 wt_ya_tx_needOf (wp_tx_needOf_ok hD hq6) (by omega) (hD 34 (Nat.le_of_ble_eq_true rfl)) wt_L34 rfl rfl rfl (Nat.le_of_ble_eq_true rfl) (Nat.zero_le _) wp_tr_standAtOnce_d46 (fun hbq6 => ?_)
      refine wt_goto hE 53 wp_tr_standAtOnce_d49 rfl ?_
      refine wt_wk [true, true, true, false, true] rfl ?_
      exact wp_tr_standAtOnce_B53_ok hE hR hD hK2 hK16 h
noncomputable def wp_tr_standAtOnce_B2 (n : Nat) (x1 : Int32) (K2 : Int32 × wt_St → Option (Int32 × wt_St)) (s : Int32 × wt_St) : Option (Int32 × wt_St) :=
  if (26 : Int32) ≤ s.1 then
    some ((1 : Int32), s.2)
  else
    wt_it (wp_tr_standAtOnce_B16 n x1 s.1 K2) n ((0 : Int32), (0 : Int32), s.2)
set_option maxRecDepth 100000 in
set_option maxHeartbeats 4000000 in
theorem wp_tr_standAtOnce_B2_ok  {x1 : Int32} {X : wt_X} {n : Nat} {res : Int32 × wt_St} (hE : wt_Ok X prog_10_method_5_code 5 "WornType$Trade" 2 0) (hR : wt_Rt X (some .boolean) (some res.1) res.2) (hD : ∀ i, i < 108 → wt_dom (wt_xw X) i)  {K2 : Int32 × wt_St → Option (Int32 × wt_St)} (hK2 : ∀ s : Int32 × wt_St, K2 s = some res → wt_V X 0 s.2 2 [some (.ref (wt_ad (wt_xw X) 101)), some (.int x1), some (.int s.1), none, none] []) {s : Int32 × wt_St} (h : wp_tr_standAtOnce_B2 n x1 K2 s = some res) : wt_V X 0 s.2 2 [some (.ref (wt_ad (wt_xw X) 101)), some (.int x1), some (.int s.1), none, none] [] := by
  unfold wp_tr_standAtOnce_B2 at h
  refine wt_iload_n hE wp_tr_standAtOnce_d2 rfl ?_
  refine wt_aload_n hE wp_tr_standAtOnce_d3 rfl ?_
  refine wt_getr hE (r := 106) wt_lf_tr_40 (hD 101 (Nat.le_of_ble_eq_true rfl)) wt_L101 rfl wp_tr_standAtOnce_d4 ?_
  refine wt_alen hE (26 : Int32) (hD 106 (Nat.le_of_ble_eq_true rfl)) wt_L106 rfl wp_tr_standAtOnce_d7 ?_
  refine wt_icmp_ge hE 79 wp_tr_standAtOnce_d8 rfl (fun c1 => ?_) (fun c1 => ?_)
  · have h := wt_ip c1 h
    refine wt_iconst hE (1 : Int32) wp_tr_standAtOnce_d79 wt_ci_1 ?_
    cases h
    exact wt_zret hE (by decide) hR wp_tr_standAtOnce_d80
  · have h := wt_in c1 h
    refine wt_iconst hE (0 : Int32) wp_tr_standAtOnce_d11 wt_ci_0 ?_
    refine wt_istore_n hE [some (.ref (wt_ad (wt_xw X) 101)), some (.int x1), some (.int s.1), some (.int (0 : Int32)), none] wp_tr_standAtOnce_d12 (by decide) rfl ?_
    refine wt_iconst hE (0 : Int32) wp_tr_standAtOnce_d13 wt_ci_0 ?_
    refine wt_istore hE [some (.ref (wt_ad (wt_xw X) 101)), some (.int x1), some (.int s.1), some (.int (0 : Int32)), some (.int (0 : Int32))] wp_tr_standAtOnce_d14 (Nat.le_of_ble_eq_true rfl) rfl ?_
    exact wt_it_ind (fun z => wt_V X 0 z.2.2 16 [some (.ref (wt_ad (wt_xw X) 101)), some (.int x1), some (.int s.1), some (.int z.1), some (.int z.2.1)] []) (fun K hK z h => wp_tr_standAtOnce_B16_ok hE hR hD hK2 hK h) n ((0 : Int32), (0 : Int32), s.2) h
noncomputable def wp_tr_standAtOnce (n : Nat) (x1 : Int32) (σ : wt_St) : Option (Int32 × wt_St) :=
  wt_it (wp_tr_standAtOnce_B2 n x1) n ((0 : Int32), σ)
set_option maxRecDepth 100000 in
set_option maxHeartbeats 4000000 in
theorem wp_tr_standAtOnce_ok {l : Launch} {w : wt_E} {n : Nat} {x1 : Int32} (hD : ∀ i, i < 108 → wt_dom w i) {σ : wt_St} {q : Int32 × wt_St} (h : wp_tr_standAtOnce n x1 σ = some q) : wt_Ctr l w wt_y_tr_standAtOnce prog_10_method_5_code 5 (some .boolean) 2 [.ref (wt_ad w 101), .int x1] σ (some q.1) q.2 := by
  refine wt_ctr wt_pl_tr_standAtOnce rfl (Nat.le_of_ble_eq_true rfl) [some (.ref (wt_ad w 101)), some (.int x1), none, none, none] rfl ?_
  intro X hXl hXw hE hR
  subst hXl
  subst hXw
  have hE : wt_Ok X prog_10_method_5_code 5 "WornType$Trade" 2 0 := hE
  unfold wp_tr_standAtOnce at h
  refine wt_iconst hE (0 : Int32) wp_tr_standAtOnce_d0 wt_ci_0 ?_
  refine wt_istore_n hE [some (.ref (wt_ad (wt_xw X) 101)), some (.int x1), some (.int (0 : Int32)), none, none] wp_tr_standAtOnce_d1 (by decide) rfl ?_
  exact wt_it_ind (fun z => wt_V X 0 z.2 2 [some (.ref (wt_ad (wt_xw X) 101)), some (.int x1), some (.int z.1), none, none] []) (fun K hK z h => wp_tr_standAtOnce_B2_ok hE hR hD hK h) n ((0 : Int32), σ) h
