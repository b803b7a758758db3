def wb10m0_prog_1_method_41_code_r0 : List (List Nat) := [27, 155, 0, 15, 27, 42, 190, 162, 0, 9, 42, 27, 46, 167, 0, 4, 3, 172] :: []
set_option maxRecDepth 100000 in
theorem wb10m0_prog_1_method_41_code_c0 : wt_cs prog_1_method_41_code 0 wb10m0_prog_1_method_41_code_r0 := wt_cs_of (by decide +kernel)
theorem wp_ap_look_d0 : decode prog_1_method_41_code 0 = .ok (.iload_n 1, 1) := wt_op27 wb10m0_prog_1_method_41_code_c0 0 rfl rfl
theorem wp_ap_look_d1 : decode prog_1_method_41_code 1 = .ok (.ifCond .lt 15, 3) := wt_op155 wb10m0_prog_1_method_41_code_c0 1 rfl rfl rfl
theorem wp_ap_look_d4 : decode prog_1_method_41_code 4 = .ok (.iload_n 1, 1) := wt_op27 wb10m0_prog_1_method_41_code_c0 4 rfl rfl
theorem wp_ap_look_d5 : decode prog_1_method_41_code 5 = .ok (.aload_n 0, 1) := wt_op42 wb10m0_prog_1_method_41_code_c0 5 rfl rfl
theorem wp_ap_look_d6 : decode prog_1_method_41_code 6 = .ok (.arraylength, 1) := wt_op190 wb10m0_prog_1_method_41_code_c0 6 rfl rfl
theorem wp_ap_look_d7 : decode prog_1_method_41_code 7 = .ok (.if_icmp .ge 9, 3) := wt_op162 wb10m0_prog_1_method_41_code_c0 7 rfl rfl rfl
theorem wp_ap_look_d10 : decode prog_1_method_41_code 10 = .ok (.aload_n 0, 1) := wt_op42 wb10m0_prog_1_method_41_code_c0 10 rfl rfl
theorem wp_ap_look_d11 : decode prog_1_method_41_code 11 = .ok (.iload_n 1, 1) := wt_op27 wb10m0_prog_1_method_41_code_c0 11 rfl rfl
theorem wp_ap_look_d12 : decode prog_1_method_41_code 12 = .ok (.iaload, 1) := wt_op46 wb10m0_prog_1_method_41_code_c0 12 rfl rfl
theorem wp_ap_look_d13 : decode prog_1_method_41_code 13 = .ok (.goto 4, 3) := wt_op167 wb10m0_prog_1_method_41_code_c0 13 rfl rfl rfl
theorem wp_ap_look_d16 : decode prog_1_method_41_code 16 = .ok (.iconst 0, 1) := wt_op3 wb10m0_prog_1_method_41_code_c0 16 rfl rfl
theorem wp_ap_look_d17 : decode prog_1_method_41_code 17 = .ok (.ireturn, 1) := wt_op172 wb10m0_prog_1_method_41_code_c0 17 rfl rfl
noncomputable def wp_ap_look (n : Nat) (a0 : Nat) (x1 : Int32) (σ : wt_St) : Option (Int32 × wt_St) :=
  if x1 < 0 then
    some ((0 : Int32), σ)
  else
    if (nI (wt_ln a0)) ≤ x1 then
      some ((0 : Int32), σ)
    else
      if x1 < 0 ∨ (wt_ln a0) ≤ Int32.toNatClampNeg x1 then none else
      some ((wt_ga σ a0 (Int32.toNatClampNeg x1)), σ)
set_option maxRecDepth 100000 in
set_option maxHeartbeats 4000000 in
theorem wp_ap_look_ok {l : Launch} {w : wt_E} {n : Nat} {a0 : Nat} {x1 : Int32} (hA_a0 : wt_LAY[a0]? = some (0, wt_ln a0, [])) (hd_a0 : wt_dom w a0) {σ : wt_St} {q : Int32 × wt_St} (h : wp_ap_look n a0 x1 σ = some q) : wt_Ctr l w wt_y_ap_look prog_1_method_41_code 2 (some .int) 0 [.ref (wt_ad w a0), .int x1] σ (some q.1) q.2 := by
  refine wt_ctr wt_pl_ap_look rfl (Nat.le_of_ble_eq_true rfl) [some (.ref (wt_ad w a0)), some (.int x1)] rfl ?_
  intro X hXl hXw hE hR
  subst hXl
  subst hXw
  have hE : wt_Ok X prog_1_method_41_code 2 "WornType" 0 0 := hE
  unfold wp_ap_look at h
  refine wt_iload_n hE wp_ap_look_d0 rfl ?_
  refine wt_if_lt hE 16 wp_ap_look_d1 rfl (fun c1 => ?_) (fun c1 => ?_)
  · have h := wt_ip c1 h
    refine wt_iconst hE (0 : Int32) wp_ap_look_d16 wt_ci_0 ?_
    cases h
    exact wt_iret hE hR wp_ap_look_d17
  · have h := wt_in c1 h
    refine wt_iload_n hE wp_ap_look_d4 rfl ?_
    refine wt_aload_n hE wp_ap_look_d5 rfl ?_
    refine wt_alen hE (nI (wt_ln a0)) hd_a0 hA_a0 rfl wp_ap_look_d6 ?_
    refine wt_icmp_ge hE 16 wp_ap_look_d7 rfl (fun c2 => ?_) (fun c2 => ?_)
    · have h := wt_ip c2 h
      refine wt_iconst hE (0 : Int32) wp_ap_look_d16 wt_ci_0 ?_
      cases h
      exact wt_iret hE hR wp_ap_look_d17
    · have h := wt_in c2 h
      refine wt_aload_n hE wp_ap_look_d10 rfl ?_
      refine wt_iload_n hE wp_ap_look_d11 rfl ?_
      obtain ⟨g3, h⟩ := wt_gd h
      refine wt_iald hE hd_a0 hA_a0 g3 wp_ap_look_d12 ?_
      refine wt_goto hE 17 wp_ap_look_d13 rfl ?_
      cases h
      exact wt_iret hE hR wp_ap_look_d17
def wb10m0_prog_3_method_6_code_r1 : List (List Nat) := [167, 0, 4, 3, 96, 61, 132, 3, 1, 167, 255, 223, 28, 172] :: []
def wb10m0_prog_3_method_6_code_r0 : List (List Nat) := [3, 61, 3, 62, 29, 17, 1, 56, 162, 0, 32, 28, 42, 180, 0, 23, 180, 0, 77, 29, 184, 0, 46, 27, 160, 0, 7, 4] :: wb10m0_prog_3_method_6_code_r1
set_option maxRecDepth 100000 in
theorem wb10m0_prog_3_method_6_code_c0 : wt_cs prog_3_method_6_code 0 wb10m0_prog_3_method_6_code_r0 := wt_cs_of (by decide +kernel)
theorem wb10m0_prog_3_method_6_code_c1 : wt_cs prog_3_method_6_code 28 wb10m0_prog_3_method_6_code_r1 := wt_cs_tl (m := 28) wb10m0_prog_3_method_6_code_c0 rfl rfl
theorem wp_pg_piecesOn_d0 : decode prog_3_method_6_code 0 = .ok (.iconst 0, 1) := wt_op3 wb10m0_prog_3_method_6_code_c0 0 rfl rfl
theorem wp_pg_piecesOn_d1 : decode prog_3_method_6_code 1 = .ok (.istore_n 2, 1) := wt_op61 wb10m0_prog_3_method_6_code_c0 1 rfl rfl
theorem wp_pg_piecesOn_d2 : decode prog_3_method_6_code 2 = .ok (.iconst 0, 1) := wt_op3 wb10m0_prog_3_method_6_code_c0 2 rfl rfl
theorem wp_pg_piecesOn_d3 : decode prog_3_method_6_code 3 = .ok (.istore_n 3, 1) := wt_op62 wb10m0_prog_3_method_6_code_c0 3 rfl rfl
theorem wp_pg_piecesOn_d4 : decode prog_3_method_6_code 4 = .ok (.iload_n 3, 1) := wt_op29 wb10m0_prog_3_method_6_code_c0 4 rfl rfl
theorem wp_pg_piecesOn_d5 : decode prog_3_method_6_code 5 = .ok (.sipush 312, 3) := wt_op17 wb10m0_prog_3_method_6_code_c0 5 rfl rfl rfl
theorem wp_pg_piecesOn_d8 : decode prog_3_method_6_code 8 = .ok (.if_icmp .ge 32, 3) := wt_op162 wb10m0_prog_3_method_6_code_c0 8 rfl rfl rfl
theorem wp_pg_piecesOn_d11 : decode prog_3_method_6_code 11 = .ok (.iload_n 2, 1) := wt_op28 wb10m0_prog_3_method_6_code_c0 11 rfl rfl
theorem wp_pg_piecesOn_d12 : decode prog_3_method_6_code 12 = .ok (.aload_n 0, 1) := wt_op42 wb10m0_prog_3_method_6_code_c0 12 rfl rfl
theorem wp_pg_piecesOn_d13 : decode prog_3_method_6_code 13 = .ok (.getfield 23, 3) := wt_op180 wb10m0_prog_3_method_6_code_c0 13 rfl rfl rfl
theorem wp_pg_piecesOn_d16 : decode prog_3_method_6_code 16 = .ok (.getfield 77, 3) := wt_op180 wb10m0_prog_3_method_6_code_c0 16 rfl rfl rfl
theorem wp_pg_piecesOn_d19 : decode prog_3_method_6_code 19 = .ok (.iload_n 3, 1) := wt_op29 wb10m0_prog_3_method_6_code_c0 19 rfl rfl
theorem wp_pg_piecesOn_d20 : decode prog_3_method_6_code 20 = .ok (.invokestatic 46, 3) := wt_op184 wb10m0_prog_3_method_6_code_c0 20 rfl rfl rfl
theorem wp_pg_piecesOn_d23 : decode prog_3_method_6_code 23 = .ok (.iload_n 1, 1) := wt_op27 wb10m0_prog_3_method_6_code_c0 23 rfl rfl
theorem wp_pg_piecesOn_d24 : decode prog_3_method_6_code 24 = .ok (.if_icmp .ne 7, 3) := wt_op160 wb10m0_prog_3_method_6_code_c0 24 rfl rfl rfl
theorem wp_pg_piecesOn_d27 : decode prog_3_method_6_code 27 = .ok (.iconst 1, 1) := wt_op4 wb10m0_prog_3_method_6_code_c0 27 rfl rfl
theorem wp_pg_piecesOn_d28 : decode prog_3_method_6_code 28 = .ok (.goto 4, 3) := wt_op167 wb10m0_prog_3_method_6_code_c1 0 rfl rfl rfl
theorem wp_pg_piecesOn_d31 : decode prog_3_method_6_code 31 = .ok (.iconst 0, 1) := wt_op3 wb10m0_prog_3_method_6_code_c1 3 rfl rfl
theorem wp_pg_piecesOn_d32 : decode prog_3_method_6_code 32 = .ok (.iadd, 1) := wt_op96 wb10m0_prog_3_method_6_code_c1 4 rfl rfl
theorem wp_pg_piecesOn_d33 : decode prog_3_method_6_code 33 = .ok (.istore_n 2, 1) := wt_op61 wb10m0_prog_3_method_6_code_c1 5 rfl rfl
theorem wp_pg_piecesOn_d34 : decode prog_3_method_6_code 34 = .ok (.iinc 3 1, 3) := wt_op132 wb10m0_prog_3_method_6_code_c1 6 rfl rfl rfl
theorem wp_pg_piecesOn_d37 : decode prog_3_method_6_code 37 = .ok (.goto (-33), 3) := wt_op167 wb10m0_prog_3_method_6_code_c1 9 rfl rfl rfl
theorem wp_pg_piecesOn_d40 : decode prog_3_method_6_code 40 = .ok (.iload_n 2, 1) := wt_op28 wb10m0_prog_3_method_6_code_c1 12 rfl rfl
theorem wp_pg_piecesOn_d41 : decode prog_3_method_6_code 41 = .ok (.ireturn, 1) := wt_op172 wb10m0_prog_3_method_6_code_c1 13 rfl rfl
noncomputable def wp_pg_piecesOn_B32 (n : Nat) (x1 : Int32) (x3 : Int32) (K4 : Int32 × Int32 × wt_St → Option (Int32 × wt_St)) (y0 : Int32) (y1 : Int32) (σ : wt_St) : Option (Int32 × wt_St) :=
  K4 ((y0 + y1), (x3 + (1 : Int32)), σ)
set_option maxRecDepth 100000 in
set_option maxHeartbeats 4000000 in
theorem wp_pg_piecesOn_B32_ok  {x1 : Int32} {x3 : Int32} {X : wt_X} {n : Nat} {res : Int32 × wt_St} (hE : wt_Ok X prog_3_method_6_code 4 "WornType$Pages" 1 0) (hR : wt_Rt X (some .int) (some res.1) res.2) (hD : ∀ i, i < 108 → wt_dom (wt_xw X) i)  {K4 : Int32 × Int32 × wt_St → Option (Int32 × wt_St)} (hK4 : ∀ s : Int32 × Int32 × wt_St, K4 s = some res → wt_V X 0 s.2.2 4 [some (.ref (wt_ad (wt_xw X) 77)), some (.int x1), some (.int s.1), some (.int s.2.1)] []) {σ : wt_St} {y0 : Int32} {y1 : Int32} (h : wp_pg_piecesOn_B32 n x1 x3 K4 y0 y1 σ = some res) : wt_V X 0 σ 32 [some (.ref (wt_ad (wt_xw X) 77)), some (.int x1), none, some (.int x3)] [.int y1, .int y0] := by
  unfold wp_pg_piecesOn_B32 at h
  refine wt_iadd hE wp_pg_piecesOn_d32 ?_
  refine wt_istore_n hE [some (.ref (wt_ad (wt_xw X) 77)), some (.int x1), some (.int (y0 + y1)), some (.int x3)] wp_pg_piecesOn_d33 (by decide) rfl ?_
  refine wt_iinc hE (x3 + (1 : Int32)) [some (.ref (wt_ad (wt_xw X) 77)), some (.int x1), some (.int (y0 + y1)), some (.int (x3 + (1 : Int32)))] wp_pg_piecesOn_d34 (by decide) rfl rfl rfl ?_
  refine wt_goto hE 4 wp_pg_piecesOn_d37 rfl ?_
  exact hK4 ((y0 + y1), (x3 + (1 : Int32)), σ) h
noncomputable def wp_pg_piecesOn_B4 (n : Nat) (x1 : Int32) (K4 : Int32 × Int32 × wt_St → Option (Int32 × wt_St)) (s : Int32 × Int32 × wt_St) : Option (Int32 × wt_St) :=
  if (312 : Int32) ≤ s.2.1 then
    some (s.1, s.2.2)
  else
    (wp_ap_look n 41 s.2.1 s.2.2).bind fun q2 =>
    if q2.1 = x1 then
      wp_pg_piecesOn_B32 n x1 s.2.1 K4 s.1 (1 : Int32) q2.2
    else
      wp_pg_piecesOn_B32 n x1 s.2.1 K4 s.1 (0 : Int32) q2.2
set_option maxRecDepth 100000 in
set_option maxHeartbeats 4000000 in
theorem wp_pg_piecesOn_B4_ok  {x1 : Int32} {X : wt_X} {n : Nat} {res : Int32 × wt_St} (hE : wt_Ok X prog_3_method_6_code 4 "WornType$Pages" 1 0) (hR : wt_Rt X (some .int) (some res.1) res.2) (hD : ∀ i, i < 108 → wt_dom (wt_xw X) i)  {K4 : Int32 × Int32 × wt_St → Option (Int32 × wt_St)} (hK4 : ∀ s : Int32 × Int32 × wt_St, K4 s = some res → wt_V X 0 s.2.2 4 [some (.ref (wt_ad (wt_xw X) 77)), some (.int x1), some (.int s.1), some (.int s.2.1)] []) {s : Int32 × Int32 × wt_St} (h : wp_pg_piecesOn_B4 n x1 K4 s = some res) : wt_V X 0 s.2.2 4 [some (.ref (wt_ad (wt_xw X) 77)), some (.int x1), some (.int s.1), some (.int s.2.1)] [] := by
  unfold wp_pg_piecesOn_B4 at h
  refine wt_iload_n hE wp_pg_piecesOn_d4 rfl ?_
  refine wt_sipush hE (312 : Int32) wp_pg_piecesOn_d5 wt_cs_312 ?_
  refine wt_icmp_ge hE 40 wp_pg_piecesOn_d8 rfl (fun c1 => ?_) (fun c1 => ?_)
  · have h := wt_ip c1 h
    refine wt_iload_n hE wp_pg_piecesOn_d40 rfl ?_
    cases h
    exact wt_iret hE hR wp_pg_piecesOn_d41
  · have h := wt_in c1 h
    refine wt_iload_n hE wp_pg_piecesOn_d11 rfl ?_
    refine wt_aload_n hE wp_pg_piecesOn_d12 rfl ?_
    refine wt_getr hE (r := 39) wt_lf_pg_23 (hD 77 (Nat.le_of_ble_eq_true rfl)) wt_L77 rfl wp_pg_piecesOn_d13 ?_
    refine wt_getr hE (r := 41) wt_lf_pg_77 (hD 39 (Nat.le_of_ble_eq_true rfl)) wt_L39 rfl wp_pg_piecesOn_d16 ?_
    refine wt_iload_n hE wp_pg_piecesOn_d19 rfl ?_
    obtain ⟨q2, hq2, h⟩ := wt_bi h
    refine wt_callSi hE [.ref (wt_ad (wt_xw X) 41), .int s.2.1] wt_lm_pg_46 wt_ya_ap_look (wp_ap_look_ok (wt_lnE wt_L41) (hD 41 (Nat.le_of_ble_eq_true rfl)) hq2) (by omega) rfl rfl (Nat.le_of_ble_eq_true rfl) (Nat.zero_le _) wp_pg_piecesOn_d20 (fun hbq2 => ?_)
    refine wt_iload_n hE wp_pg_piecesOn_d23 rfl ?_
    refine wt_icmp_ne hE 31 wp_pg_piecesOn_d24 rfl (fun c3 => ?_) (fun c3 => ?_)
    · have h := wt_in c3 h
      refine wt_iconst hE (0 : Int32) wp_pg_piecesOn_d31 wt_ci_0 ?_
      refine wt_wk [true, true, false, true] rfl ?_
      exact wp_pg_piecesOn_B32_ok hE hR hD hK4 h
    · have h := wt_ip c3 h
      refine wt_iconst hE (1 : Int32) wp_pg_piecesOn_d27 wt_ci_1 ?_
      refine wt_goto hE 32 wp_pg_piecesOn_d28 rfl ?_
      refine wt_wk [true, true, false, true] rfl ?_
      exact wp_pg_piecesOn_B32_ok hE hR hD hK4 h
noncomputable def wp_pg_piecesOn (n : Nat) (x1 : Int32) (σ : wt_St) : Option (Int32 × wt_St) :=
  wt_it (wp_pg_piecesOn_B4 n x1) n ((0 : Int32), (0 : Int32), σ)
set_option maxRecDepth 100000 in
set_option maxHeartbeats 4000000 in
theorem wp_pg_piecesOn_ok {l : Launch} {w : wt_E} {n : Nat} {x1 : Int32} (hD : ∀ i, i < 108 → wt_dom w i) {σ : wt_St} {q : Int32 × wt_St} (h : wp_pg_piecesOn n x1 σ = some q) : wt_Ctr l w wt_y_pg_piecesOn prog_3_method_6_code 4 (some .int) 1 [.ref (wt_ad w 77), .int x1] σ (some q.1) q.2 := by
  refine wt_ctr wt_pl_pg_piecesOn rfl (Nat.le_of_ble_eq_true rfl) [some (.ref (wt_ad w 77)), some (.int x1), none, none] rfl ?_
  intro X hXl hXw hE hR
  subst hXl
  subst hXw
  have hE : wt_Ok X prog_3_method_6_code 4 "WornType$Pages" 1 0 := hE
  unfold wp_pg_piecesOn at h
  refine wt_iconst hE (0 : Int32) wp_pg_piecesOn_d0 wt_ci_0 ?_
  refine wt_istore_n hE [some (.ref (wt_ad (wt_xw X) 77)), some (.int x1), some (.int (0 : Int32)), none] wp_pg_piecesOn_d1 (by decide) rfl ?_
  refine wt_iconst hE (0 : Int32) wp_pg_piecesOn_d2 wt_ci_0 ?_
  refine wt_istore_n hE [some (.ref (wt_ad (wt_xw X) 77)), some (.int x1), some (.int (0 : Int32)), some (.int (0 : Int32))] wp_pg_piecesOn_d3 (by decide) rfl ?_
  exact wt_it_ind (fun z => wt_V X 0 z.2.2 4 [some (.ref (wt_ad (wt_xw X) 77)), some (.int x1), some (.int z.1), some (.int z.2.1)] []) (fun K hK z h => wp_pg_piecesOn_B4_ok hE hR hD hK h) n ((0 : Int32), (0 : Int32), σ) h
def wb10m0_prog_3_method_2_code_r1 : List (List Nat) := [3, 172] :: []
def wb10m0_prog_3_method_2_code_r0 : List (List Nat) := [27, 155, 0, 27, 27, 7, 162, 0, 22, 42, 180, 0, 23, 180, 0, 41, 27, 184, 0, 46, 2, 159, 0, 7, 4, 167, 0, 4] :: wb10m0_prog_3_method_2_code_r1
set_option maxRecDepth 100000 in
theorem wb10m0_prog_3_method_2_code_c0 : wt_cs prog_3_method_2_code 0 wb10m0_prog_3_method_2_code_r0 := wt_cs_of (by decide +kernel)
theorem wb10m0_prog_3_method_2_code_c1 : wt_cs prog_3_method_2_code 28 wb10m0_prog_3_method_2_code_r1 := wt_cs_tl (m := 28) wb10m0_prog_3_method_2_code_c0 rfl rfl
theorem wp_pg_stands_d0 : decode prog_3_method_2_code 0 = .ok (.iload_n 1, 1) := wt_op27 wb10m0_prog_3_method_2_code_c0 0 rfl rfl
theorem wp_pg_stands_d1 : decode prog_3_method_2_code 1 = .ok (.ifCond .lt 27, 3) := wt_op155 wb10m0_prog_3_method_2_code_c0 1 rfl rfl rfl
theorem wp_pg_stands_d4 : decode prog_3_method_2_code 4 = .ok (.iload_n 1, 1) := wt_op27 wb10m0_prog_3_method_2_code_c0 4 rfl rfl
theorem wp_pg_stands_d5 : decode prog_3_method_2_code 5 = .ok (.iconst 4, 1) := wt_op7 wb10m0_prog_3_method_2_code_c0 5 rfl rfl
theorem wp_pg_stands_d6 : decode prog_3_method_2_code 6 = .ok (.if_icmp .ge 22, 3) := wt_op162 wb10m0_prog_3_method_2_code_c0 6 rfl rfl rfl
theorem wp_pg_stands_d9 : decode prog_3_method_2_code 9 = .ok (.aload_n 0, 1) := wt_op42 wb10m0_prog_3_method_2_code_c0 9 rfl rfl
theorem wp_pg_stands_d10 : decode prog_3_method_2_code 10 = .ok (.getfield 23, 3) := wt_op180 wb10m0_prog_3_method_2_code_c0 10 rfl rfl rfl
theorem wp_pg_stands_d13 : decode prog_3_method_2_code 13 = .ok (.getfield 41, 3) := wt_op180 wb10m0_prog_3_method_2_code_c0 13 rfl rfl rfl
theorem wp_pg_stands_d16 : decode prog_3_method_2_code 16 = .ok (.iload_n 1, 1) := wt_op27 wb10m0_prog_3_method_2_code_c0 16 rfl rfl
theorem wp_pg_stands_d17 : decode prog_3_method_2_code 17 = .ok (.invokestatic 46, 3) := wt_op184 wb10m0_prog_3_method_2_code_c0 17 rfl rfl rfl
theorem wp_pg_stands_d20 : decode prog_3_method_2_code 20 = .ok (.iconst (-1), 1) := wt_op2 wb10m0_prog_3_method_2_code_c0 20 rfl rfl
theorem wp_pg_stands_d21 : decode prog_3_method_2_code 21 = .ok (.if_icmp .eq 7, 3) := wt_op159 wb10m0_prog_3_method_2_code_c0 21 rfl rfl rfl
theorem wp_pg_stands_d24 : decode prog_3_method_2_code 24 = .ok (.iconst 1, 1) := wt_op4 wb10m0_prog_3_method_2_code_c0 24 rfl rfl
theorem wp_pg_stands_d25 : decode prog_3_method_2_code 25 = .ok (.goto 4, 3) := wt_op167 wb10m0_prog_3_method_2_code_c0 25 rfl rfl rfl
theorem wp_pg_stands_d28 : decode prog_3_method_2_code 28 = .ok (.iconst 0, 1) := wt_op3 wb10m0_prog_3_method_2_code_c1 0 rfl rfl
theorem wp_pg_stands_d29 : decode prog_3_method_2_code 29 = .ok (.ireturn, 1) := wt_op172 wb10m0_prog_3_method_2_code_c1 1 rfl rfl
noncomputable def wp_pg_stands (n : Nat) (x1 : Int32) (σ : wt_St) : Option (Int32 × wt_St) :=
  if x1 < 0 then
    some ((0 : Int32), σ)
  else
    if (4 : Int32) ≤ x1 then
      some ((0 : Int32), σ)
    else
      (wp_ap_look n 43 x1 σ).bind fun q3 =>
      if q3.1 = (-1 : Int32) then
        some ((0 : Int32), q3.2)
      else
        some ((1 : Int32), q3.2)
set_option maxRecDepth 100000 in
set_option maxHeartbeats 4000000 in
theorem wp_pg_stands_ok {l : Launch} {w : wt_E} {n : Nat} {x1 : Int32} (hD : ∀ i, i < 108 → wt_dom w i) {σ : wt_St} {q : Int32 × wt_St} (h : wp_pg_stands n x1 σ = some q) : wt_Ctr l w wt_y_pg_stands prog_3_method_2_code 2 (some .boolean) 1 [.ref (wt_ad w 77), .int x1] σ (some q.1) q.2 := by
  refine wt_ctr wt_pl_pg_stands rfl (Nat.le_of_ble_eq_true rfl) [some (.ref (wt_ad w 77)), some (.int x1)] rfl ?_
  intro X hXl hXw hE hR
  subst hXl
  subst hXw
  have hE : wt_Ok X prog_3_method_2_code 2 "WornType$Pages" 1 0 := hE
  unfold wp_pg_stands at h
  refine wt_iload_n hE wp_pg_stands_d0 rfl ?_
  refine wt_if_lt hE 28 wp_pg_stands_d1 rfl (fun c1 => ?_) (fun c1 => ?_)
  · have h := wt_ip c1 h
    refine wt_iconst hE (0 : Int32) wp_pg_stands_d28 wt_ci_0 ?_
    cases h
    exact wt_zret hE (by decide) hR wp_pg_stands_d29
  · have h := wt_in c1 h
    refine wt_iload_n hE wp_pg_stands_d4 rfl ?_
    refine wt_iconst hE (4 : Int32) wp_pg_stands_d5 wt_ci_4 ?_
    refine wt_icmp_ge hE 28 wp_pg_stands_d6 rfl (fun c2 => ?_) (fun c2 => ?_)
    · have h := wt_ip c2 h
      refine wt_iconst hE (0 : Int32) wp_pg_stands_d28 wt_ci_0 ?_
      cases h
      exact wt_zret hE (by decide) hR wp_pg_stands_d29
    · have h := wt_in c2 h
      refine wt_aload_n hE wp_pg_stands_d9 rfl ?_
      refine wt_getr hE (r := 39) wt_lf_pg_23 (hD 77 (Nat.le_of_ble_eq_true rfl)) wt_L77 rfl wp_pg_stands_d10 ?_
      refine wt_getr hE (r := 43) wt_lf_pg_41 (hD 39 (Nat.le_of_ble_eq_true rfl)) wt_L39 rfl wp_pg_stands_d13 ?_
      refine wt_iload_n hE wp_pg_stands_d16 rfl ?_
      obtain ⟨q3, hq3, h⟩ := wt_bi h
      refine wt_callSi hE [.ref (wt_ad (wt_xw X) 43), .int x1] wt_lm_pg_46 wt_ya_ap_look (wp_ap_look_ok (wt_lnE wt_L43) (hD 43 (Nat.le_of_ble_eq_true rfl)) hq3) (by omega) rfl rfl (Nat.le_of_ble_eq_true rfl) (Nat.zero_le _) wp_pg_stands_d17 (fun hbq3 => ?_)
      refine wt_iconst hE (-1 : Int32) wp_pg_stands_d20 wt_ci_m1 ?_
      refine wt_icmp_eq hE 28 wp_pg_stands_d21 rfl (fun c4 => ?_) (fun c4 => ?_)
      · have h := wt_ip c4 h
        refine wt_iconst hE (0 : Int32) wp_pg_stands_d28 wt_ci_0 ?_
        cases h
        exact wt_zret hE (by decide) hR wp_pg_stands_d29
      · have h := wt_in c4 h
        refine wt_iconst hE (1 : Int32) wp_pg_stands_d24 wt_ci_1 ?_
        refine wt_goto hE 29 wp_pg_stands_d25 rfl ?_
        cases h
        exact wt_zret hE (by decide) hR wp_pg_stands_d29
def wb10m0_prog_1_method_42_code_r0 : List (List Nat) := [27, 155, 0, 13, 27, 42, 190, 162, 0, 7, 42, 27, 28, 79, 177] :: []
set_option maxRecDepth 100000 in
theorem wb10m0_prog_1_method_42_code_c0 : wt_cs prog_1_method_42_code 0 wb10m0_prog_1_method_42_code_r0 := wt_cs_of (by decide +kernel)
theorem wp_ap_put_d0 : decode prog_1_method_42_code 0 = .ok (.iload_n 1, 1) := wt_op27 wb10m0_prog_1_method_42_code_c0 0 rfl rfl
theorem wp_ap_put_d1 : decode prog_1_method_42_code 1 = .ok (.ifCond .lt 13, 3) := wt_op155 wb10m0_prog_1_method_42_code_c0 1 rfl rfl rfl
theorem wp_ap_put_d4 : decode prog_1_method_42_code 4 = .ok (.iload_n 1, 1) := wt_op27 wb10m0_prog_1_method_42_code_c0 4 rfl rfl
theorem wp_ap_put_d5 : decode prog_1_method_42_code 5 = .ok (.aload_n 0, 1) := wt_op42 wb10m0_prog_1_method_42_code_c0 5 rfl rfl
theorem wp_ap_put_d6 : decode prog_1_method_42_code 6 = .ok (.arraylength, 1) := wt_op190 wb10m0_prog_1_method_42_code_c0 6 rfl rfl
theorem wp_ap_put_d7 : decode prog_1_method_42_code 7 = .ok (.if_icmp .ge 7, 3) := wt_op162 wb10m0_prog_1_method_42_code_c0 7 rfl rfl rfl
theorem wp_ap_put_d10 : decode prog_1_method_42_code 10 = .ok (.aload_n 0, 1) := wt_op42 wb10m0_prog_1_method_42_code_c0 10 rfl rfl
theorem wp_ap_put_d11 : decode prog_1_method_42_code 11 = .ok (.iload_n 1, 1) := wt_op27 wb10m0_prog_1_method_42_code_c0 11 rfl rfl
theorem wp_ap_put_d12 : decode prog_1_method_42_code 12 = .ok (.iload_n 2, 1) := wt_op28 wb10m0_prog_1_method_42_code_c0 12 rfl rfl
theorem wp_ap_put_d13 : decode prog_1_method_42_code 13 = .ok (.iastore, 1) := wt_op79 wb10m0_prog_1_method_42_code_c0 13 rfl rfl
theorem wp_ap_put_d14 : decode prog_1_method_42_code 14 = .ok (.return_, 1) := wt_op177 wb10m0_prog_1_method_42_code_c0 14 rfl rfl
noncomputable def wp_ap_put (n : Nat) (a0 : Nat) (x1 : Int32) (x2 : Int32) (σ : wt_St) : Option (wt_St) :=
  if x1 < 0 then
    some σ
  else
    if (nI (wt_ln a0)) ≤ x1 then
      some σ
    else
      if x1 < 0 ∨ (wt_ln a0) ≤ Int32.toNatClampNeg x1 then none else
      some (wt_sa σ a0 (Int32.toNatClampNeg x1) x2)
set_option maxRecDepth 100000 in
set_option maxHeartbeats 4000000 in
theorem wp_ap_put_ok {l : Launch} {w : wt_E} {n : Nat} {a0 : Nat} {x1 : Int32} {x2 : Int32} (hA_a0 : wt_LAY[a0]? = some (0, wt_ln a0, [])) (hd_a0 : wt_dom w a0) {σ : wt_St} {q : wt_St} (h : wp_ap_put n a0 x1 x2 σ = some q) : wt_Ctr l w wt_y_ap_put prog_1_method_42_code 3 none 0 [.ref (wt_ad w a0), .int x1, .int x2] σ none q := by
  refine wt_ctr wt_pl_ap_put rfl (Nat.le_of_ble_eq_true rfl) [some (.ref (wt_ad w a0)), some (.int x1), some (.int x2)] rfl ?_
  intro X hXl hXw hE hR
  subst hXl
  subst hXw
  have hE : wt_Ok X prog_1_method_42_code 3 "WornType" 0 0 := hE
  unfold wp_ap_put at h
  refine wt_iload_n hE wp_ap_put_d0 rfl ?_
  refine wt_if_lt hE 14 wp_ap_put_d1 rfl (fun c1 => ?_) (fun c1 => ?_)
  · have h := wt_ip c1 h
    cases h
    exact wt_vret hE hR wp_ap_put_d14
  · have h := wt_in c1 h
    refine wt_iload_n hE wp_ap_put_d4 rfl ?_
    refine wt_aload_n hE wp_ap_put_d5 rfl ?_
    refine wt_alen hE (nI (wt_ln a0)) hd_a0 hA_a0 rfl wp_ap_put_d6 ?_
    refine wt_icmp_ge hE 14 wp_ap_put_d7 rfl (fun c2 => ?_) (fun c2 => ?_)
    · have h := wt_ip c2 h
      cases h
      exact wt_vret hE hR wp_ap_put_d14
    · have h := wt_in c2 h
      refine wt_aload_n hE wp_ap_put_d10 rfl ?_
      refine wt_iload_n hE wp_ap_put_d11 rfl ?_
      refine wt_iload_n hE wp_ap_put_d12 rfl ?_
      obtain ⟨g3, h⟩ := wt_gd h
      refine wt_iast hE hd_a0 hA_a0 g3 wp_ap_put_d13 ?_
      cases h
      exact wt_vret hE hR wp_ap_put_d14
def wb10m0_prog_5_method_5_code_r1 : List (List Nat) := [132, 2, 1, 167, 255, 227, 42, 180, 0, 21, 27, 2, 184, 0, 59, 177] :: []
def wb10m0_prog_5_method_5_code_r0 : List (List Nat) := [3, 61, 28, 42, 180, 0, 15, 190, 162, 0, 26, 42, 180, 0, 15, 28, 46, 27, 160, 0, 10, 42, 180, 0, 15, 28, 2, 79] :: wb10m0_prog_5_method_5_code_r1
set_option maxRecDepth 100000 in
theorem wb10m0_prog_5_method_5_code_c0 : wt_cs prog_5_method_5_code 0 wb10m0_prog_5_method_5_code_r0 := wt_cs_of (by decide +kernel)
theorem wb10m0_prog_5_method_5_code_c1 : wt_cs prog_5_method_5_code 28 wb10m0_prog_5_method_5_code_r1 := wt_cs_tl (m := 28) wb10m0_prog_5_method_5_code_c0 rfl rfl
theorem wp_st_clearPage_d0 : decode prog_5_method_5_code 0 = .ok (.iconst 0, 1) := wt_op3 wb10m0_prog_5_method_5_code_c0 0 rfl rfl
theorem wp_st_clearPage_d1 : decode prog_5_method_5_code 1 = .ok (.istore_n 2, 1) := wt_op61 wb10m0_prog_5_method_5_code_c0 1 rfl rfl
theorem wp_st_clearPage_d2 : decode prog_5_method_5_code 2 = .ok (.iload_n 2, 1) := wt_op28 wb10m0_prog_5_method_5_code_c0 2 rfl rfl
theorem wp_st_clearPage_d3 : decode prog_5_method_5_code 3 = .ok (.aload_n 0, 1) := wt_op42 wb10m0_prog_5_method_5_code_c0 3 rfl rfl
theorem wp_st_clearPage_d4 : decode prog_5_method_5_code 4 = .ok (.getfield 15, 3) := wt_op180 wb10m0_prog_5_method_5_code_c0 4 rfl rfl rfl
theorem wp_st_clearPage_d7 : decode prog_5_method_5_code 7 = .ok (.arraylength, 1) := wt_op190 wb10m0_prog_5_method_5_code_c0 7 rfl rfl
theorem wp_st_clearPage_d8 : decode prog_5_method_5_code 8 = .ok (.if_icmp .ge 26, 3) := wt_op162 wb10m0_prog_5_method_5_code_c0 8 rfl rfl rfl
theorem wp_st_clearPage_d11 : decode prog_5_method_5_code 11 = .ok (.aload_n 0, 1) := wt_op42 wb10m0_prog_5_method_5_code_c0 11 rfl rfl
theorem wp_st_clearPage_d12 : decode prog_5_method_5_code 12 = .ok (.getfield 15, 3) := wt_op180 wb10m0_prog_5_method_5_code_c0 12 rfl rfl rfl
theorem wp_st_clearPage_d15 : decode prog_5_method_5_code 15 = .ok (.iload_n 2, 1) := wt_op28 wb10m0_prog_5_method_5_code_c0 15 rfl rfl
theorem wp_st_clearPage_d16 : decode prog_5_method_5_code 16 = .ok (.iaload, 1) := wt_op46 wb10m0_prog_5_method_5_code_c0 16 rfl rfl
theorem wp_st_clearPage_d17 : decode prog_5_method_5_code 17 = .ok (.iload_n 1, 1) := wt_op27 wb10m0_prog_5_method_5_code_c0 17 rfl rfl
theorem wp_st_clearPage_d18 : decode prog_5_method_5_code 18 = .ok (.if_icmp .ne 10, 3) := wt_op160 wb10m0_prog_5_method_5_code_c0 18 rfl rfl rfl
theorem wp_st_clearPage_d21 : decode prog_5_method_5_code 21 = .ok (.aload_n 0, 1) := wt_op42 wb10m0_prog_5_method_5_code_c0 21 rfl rfl
theorem wp_st_clearPage_d22 : decode prog_5_method_5_code 22 = .ok (.getfield 15, 3) := wt_op180 wb10m0_prog_5_method_5_code_c0 22 rfl rfl rfl
theorem wp_st_clearPage_d25 : decode prog_5_method_5_code 25 = .ok (.iload_n 2, 1) := wt_op28 wb10m0_prog_5_method_5_code_c0 25 rfl rfl
theorem wp_st_clearPage_d26 : decode prog_5_method_5_code 26 = .ok (.iconst (-1), 1) := wt_op2 wb10m0_prog_5_method_5_code_c0 26 rfl rfl
theorem wp_st_clearPage_d27 : decode prog_5_method_5_code 27 = .ok (.iastore, 1) := wt_op79 wb10m0_prog_5_method_5_code_c0 27 rfl rfl
theorem wp_st_clearPage_d28 : decode prog_5_method_5_code 28 = .ok (.iinc 2 1, 3) := wt_op132 wb10m0_prog_5_method_5_code_c1 0 rfl rfl rfl
theorem wp_st_clearPage_d31 : decode prog_5_method_5_code 31 = .ok (.goto (-29), 3) := wt_op167 wb10m0_prog_5_method_5_code_c1 3 rfl rfl rfl
theorem wp_st_clearPage_d34 : decode prog_5_method_5_code 34 = .ok (.aload_n 0, 1) := wt_op42 wb10m0_prog_5_method_5_code_c1 6 rfl rfl
theorem wp_st_clearPage_d35 : decode prog_5_method_5_code 35 = .ok (.getfield 21, 3) := wt_op180 wb10m0_prog_5_method_5_code_c1 7 rfl rfl rfl
theorem wp_st_clearPage_d38 : decode prog_5_method_5_code 38 = .ok (.iload_n 1, 1) := wt_op27 wb10m0_prog_5_method_5_code_c1 10 rfl rfl
theorem wp_st_clearPage_d39 : decode prog_5_method_5_code 39 = .ok (.iconst (-1), 1) := wt_op2 wb10m0_prog_5_method_5_code_c1 11 rfl rfl
theorem wp_st_clearPage_d40 : decode prog_5_method_5_code 40 = .ok (.invokestatic 59, 3) := wt_op184 wb10m0_prog_5_method_5_code_c1 12 rfl rfl rfl
theorem wp_st_clearPage_d43 : decode prog_5_method_5_code 43 = .ok (.return_, 1) := wt_op177 wb10m0_prog_5_method_5_code_c1 15 rfl rfl
noncomputable def wp_st_clearPage_B28 (n : Nat) (t0 : Nat) (x1 : Int32) (x2 : Int32) (K2 : Int32 × wt_St → Option (wt_St)) (σ : wt_St) : Option (wt_St) :=
  K2 ((x2 + (1 : Int32)), σ)
set_option maxRecDepth 100000 in
set_option maxHeartbeats 4000000 in
theorem wp_st_clearPage_B28_ok  {t0 : Nat} {x1 : Int32} {x2 : Int32} {X : wt_X} {n : Nat} {res : wt_St} (hE : wt_Ok X prog_5_method_5_code 3 "WornType$State" 1 0) (hR : wt_Rt X none none res) (hI_t0 : wt_isState t0) (hT_t0 : ∀ j, j < 9 → wt_dom (wt_xw X) (t0 + j)) {K2 : Int32 × wt_St → Option (wt_St)} (hK2 : ∀ s : Int32 × wt_St, K2 s = some res → wt_V X 0 s.2 2 [some (.ref (wt_ad (wt_xw X) t0)), some (.int x1), some (.int s.1)] []) {σ : wt_St} (h : wp_st_clearPage_B28 n t0 x1 x2 K2 σ = some res) : wt_V X 0 σ 28 [some (.ref (wt_ad (wt_xw X) t0)), some (.int x1), some (.int x2)] [] := by
  unfold wp_st_clearPage_B28 at h
  refine wt_iinc hE (x2 + (1 : Int32)) [some (.ref (wt_ad (wt_xw X) t0)), some (.int x1), some (.int (x2 + (1 : Int32)))] wp_st_clearPage_d28 (by decide) rfl rfl rfl ?_
  refine wt_goto hE 2 wp_st_clearPage_d31 rfl ?_
  exact hK2 ((x2 + (1 : Int32)), σ) h
noncomputable def wp_st_clearPage_B2 (n : Nat) (t0 : Nat) (x1 : Int32) (K2 : Int32 × wt_St → Option (wt_St)) (s : Int32 × wt_St) : Option (wt_St) :=
  if (312 : Int32) ≤ s.1 then
    (wp_ap_put n (t0 + 4) x1 (-1 : Int32) s.2).bind fun q2 =>
    some q2
  else
    if s.1 < 0 ∨ 312 ≤ Int32.toNatClampNeg s.1 then none else
    if (wt_ga s.2 (t0 + 2) (Int32.toNatClampNeg s.1)) = x1 then
      if s.1 < 0 ∨ 312 ≤ Int32.toNatClampNeg s.1 then none else
      wp_st_clearPage_B28 n t0 x1 s.1 K2 (wt_sa s.2 (t0 + 2) (Int32.toNatClampNeg s.1) (-1 : Int32))
    else
      wp_st_clearPage_B28 n t0 x1 s.1 K2 s.2
set_option maxRecDepth 100000 in
set_option maxHeartbeats 4000000 in
theorem wp_st_clearPage_B2_ok  {t0 : Nat} {x1 : Int32} {X : wt_X} {n : Nat} {res : wt_St} (hE : wt_Ok X prog_5_method_5_code 3 "WornType$State" 1 0) (hR : wt_Rt X none none res) (hI_t0 : wt_isState t0) (hT_t0 : ∀ j, j < 9 → wt_dom (wt_xw X) (t0 + j)) {K2 : Int32 × wt_St → Option (wt_St)} (hK2 : ∀ s : Int32 × wt_St, K2 s = some res → wt_V X 0 s.2 2 [some (.ref (wt_ad (wt_xw X) t0)), some (.int x1), some (.int s.1)] []) {s : Int32 × wt_St} (h : wp_st_clearPage_B2 n t0 x1 K2 s = some res) : wt_V X 0 s.2 2 [some (.ref (wt_ad (wt_xw X) t0)), some (.int x1), some (.int s.1)] [] := by
  unfold wp_st_clearPage_B2 at h
  refine wt_iload_n hE wp_st_clearPage_d2 rfl ?_
  refine wt_aload_n hE wp_st_clearPage_d3 rfl ?_
  refine wt_getr hE (r := (t0 + 2)) wt_lf_st_15 (hT_t0 0 (Nat.le_of_ble_eq_true rfl)) (hI_t0.1) rfl wp_st_clearPage_d4 ?_
  refine wt_alen hE (312 : Int32) (hT_t0 2 (Nat.le_of_ble_eq_true rfl)) (wt_isState_L2 hI_t0) rfl wp_st_clearPage_d7 ?_
  refine wt_icmp_ge hE 34 wp_st_clearPage_d8 rfl (fun c1 => ?_) (fun c1 => ?_)
  · have h := wt_ip c1 h
    refine wt_aload_n hE wp_st_clearPage_d34 rfl ?_
    refine wt_getr hE (r := (t0 + 4)) wt_lf_st_21 (hT_t0 0 (Nat.le_of_ble_eq_true rfl)) (hI_t0.1) rfl wp_st_clearPage_d35 ?_
    refine wt_iload_n hE wp_st_clearPage_d38 rfl ?_
    refine wt_iconst hE (-1 : Int32) wp_st_clearPage_d39 wt_ci_m1 ?_
    obtain ⟨q2, hq2, h⟩ := wt_bi h
    refine wt_callSv hE [.ref (wt_ad (wt_xw X) ((t0 + 4))), .int x1, .int (-1 : Int32)] wt_lm_st_59 wt_ya_ap_put (wp_ap_put_ok (wt_lnE (wt_isState_L4 hI_t0)) (hT_t0 4 (Nat.le_of_ble_eq_true rfl)) hq2) (by omega) rfl rfl (Nat.le_of_ble_eq_true rfl) (Nat.zero_le _) wp_st_clearPage_d40 ?_
    cases h
    exact wt_vret hE hR wp_st_clearPage_d43
  · have h := wt_in c1 h
    refine wt_aload_n hE wp_st_clearPage_d11 rfl ?_
    refine wt_getr hE (r := (t0 + 2)) wt_lf_st_15 (hT_t0 0 (Nat.le_of_ble_eq_true rfl)) (hI_t0.1) rfl wp_st_clearPage_d12 ?_
    refine wt_iload_n hE wp_st_clearPage_d15 rfl ?_
    obtain ⟨g3, h⟩ := wt_gd h
    refine wt_iald hE (hT_t0 2 (Nat.le_of_ble_eq_true rfl)) (wt_isState_L2 hI_t0) g3 wp_st_clearPage_d16 ?_
    refine wt_iload_n hE wp_st_clearPage_d17 rfl ?_
    refine wt_icmp_ne hE 28 wp_st_clearPage_d18 rfl (fun c4 => ?_) (fun c4 => ?_)
    · have h := wt_in c4 h
      exact wp_st_clearPage_B28_ok hE hR hI_t0 hT_t0 hK2 h
    · have h := wt_ip c4 h
      refine wt_aload_n hE wp_st_clearPage_d21 rfl ?_
      refine wt_getr hE (r := (t0 + 2)) wt_lf_st_15 (hT_t0 0 (Nat.le_of_ble_eq_true rfl)) (hI_t0.1) rfl wp_st_clearPage_d22 ?_
      refine wt_iload_n hE wp_st_clearPage_d25 rfl ?_
      refine wt_iconst hE (-1 : Int32) wp_st_clearPage_d26 wt_ci_m1 ?_
      obtain ⟨g5, h⟩ := wt_gd h
      refine wt_iast hE (hT_t0 2 (Nat.le_of_ble_eq_true rfl)) (wt_isState_L2 hI_t0) g5 wp_st_clearPage_d27 ?_
      exact wp_st_clearPage_B28_ok hE hR hI_t0 hT_t0 hK2 h
noncomputable def wp_st_clearPage (n : Nat) (t0 : Nat) (x1 : Int32) (σ : wt_St) : Option (wt_St) :=
  wt_it (wp_st_clearPage_B2 n t0 x1) n ((0 : Int32), σ)
set_option maxRecDepth 100000 in
set_option maxHeartbeats 4000000 in
theorem wp_st_clearPage_ok {l : Launch} {w : wt_E} {n : Nat} {t0 : Nat} {x1 : Int32} (hI_t0 : wt_isState t0) (hT_t0 : ∀ j, j < 9 → wt_dom w (t0 + j)) {σ : wt_St} {q : wt_St} (h : wp_st_clearPage n t0 x1 σ = some q) : wt_Ctr l w wt_y_st_clearPage prog_5_method_5_code 3 none 1 [.ref (wt_ad w t0), .int x1] σ none q := by
  refine wt_ctr wt_pl_st_clearPage rfl (Nat.le_of_ble_eq_true rfl) [some (.ref (wt_ad w t0)), some (.int x1), none] rfl ?_
  intro X hXl hXw hE hR
  subst hXl
  subst hXw
  have hE : wt_Ok X prog_5_method_5_code 3 "WornType$State" 1 0 := hE
  unfold wp_st_clearPage at h
  refine wt_iconst hE (0 : Int32) wp_st_clearPage_d0 wt_ci_0 ?_
  refine wt_istore_n hE [some (.ref (wt_ad (wt_xw X) t0)), some (.int x1), some (.int (0 : Int32))] wp_st_clearPage_d1 (by decide) rfl ?_
  exact wt_it_ind (fun z => wt_V X 0 z.2 2 [some (.ref (wt_ad (wt_xw X) t0)), some (.int x1), some (.int z.1)] []) (fun K hK z h => wp_st_clearPage_B2_ok hE hR hI_t0 hT_t0 hK h) n ((0 : Int32), σ) h
def wb10m0_prog_8_method_2_code_r0 : List (List Nat) := [27, 155, 0, 15, 27, 42, 180, 0, 24, 162, 0, 7, 4, 167, 0, 4, 3, 172] :: []
set_option maxRecDepth 100000 in
theorem wb10m0_prog_8_method_2_code_c0 : wt_cs prog_8_method_2_code 0 wb10m0_prog_8_method_2_code_r0 := wt_cs_of (by decide +kernel)
theorem wp_tx_has_d0 : decode prog_8_method_2_code 0 = .ok (.iload_n 1, 1) := wt_op27 wb10m0_prog_8_method_2_code_c0 0 rfl rfl
theorem wp_tx_has_d1 : decode prog_8_method_2_code 1 = .ok (.ifCond .lt 15, 3) := wt_op155 wb10m0_prog_8_method_2_code_c0 1 rfl rfl rfl
theorem wp_tx_has_d4 : decode prog_8_method_2_code 4 = .ok (.iload_n 1, 1) := wt_op27 wb10m0_prog_8_method_2_code_c0 4 rfl rfl
theorem wp_tx_has_d5 : decode prog_8_method_2_code 5 = .ok (.aload_n 0, 1) := wt_op42 wb10m0_prog_8_method_2_code_c0 5 rfl rfl
theorem wp_tx_has_d6 : decode prog_8_method_2_code 6 = .ok (.getfield 24, 3) := wt_op180 wb10m0_prog_8_method_2_code_c0 6 rfl rfl rfl
theorem wp_tx_has_d9 : decode prog_8_method_2_code 9 = .ok (.if_icmp .ge 7, 3) := wt_op162 wb10m0_prog_8_method_2_code_c0 9 rfl rfl rfl
theorem wp_tx_has_d12 : decode prog_8_method_2_code 12 = .ok (.iconst 1, 1) := wt_op4 wb10m0_prog_8_method_2_code_c0 12 rfl rfl
theorem wp_tx_has_d13 : decode prog_8_method_2_code 13 = .ok (.goto 4, 3) := wt_op167 wb10m0_prog_8_method_2_code_c0 13 rfl rfl rfl
theorem wp_tx_has_d16 : decode prog_8_method_2_code 16 = .ok (.iconst 0, 1) := wt_op3 wb10m0_prog_8_method_2_code_c0 16 rfl rfl
theorem wp_tx_has_d17 : decode prog_8_method_2_code 17 = .ok (.ireturn, 1) := wt_op172 wb10m0_prog_8_method_2_code_c0 17 rfl rfl
noncomputable def wp_tx_has (n : Nat) (x1 : Int32) (σ : wt_St) : Option (Int32 × wt_St) :=
  if x1 < 0 then
    some ((0 : Int32), σ)
  else
    if (wt_gf σ 34 4) ≤ x1 then
      some ((0 : Int32), σ)
    else
      some ((1 : Int32), σ)
set_option maxRecDepth 100000 in
set_option maxHeartbeats 4000000 in
theorem wp_tx_has_ok {l : Launch} {w : wt_E} {n : Nat} {x1 : Int32} (hD : ∀ i, i < 108 → wt_dom w i) {σ : wt_St} {q : Int32 × wt_St} (h : wp_tx_has n x1 σ = some q) : wt_Ctr l w wt_y_tx_has prog_8_method_2_code 2 (some .boolean) 0 [.ref (wt_ad w 34), .int x1] σ (some q.1) q.2 := by
  refine wt_ctr wt_pl_tx_has rfl (Nat.le_of_ble_eq_true rfl) [some (.ref (wt_ad w 34)), some (.int x1)] rfl ?_
  intro X hXl hXw hE hR
  subst hXl
  subst hXw
  have hE : wt_Ok X prog_8_method_2_code 2 "WornType$Texts" 0 0 := hE
  unfold wp_tx_has at h
  refine wt_iload_n hE wp_tx_has_d0 rfl ?_
  refine wt_if_lt hE 16 wp_tx_has_d1 rfl (fun c1 => ?_) (fun c1 => ?_)
  · have h := wt_ip c1 h
    refine wt_iconst hE (0 : Int32) wp_tx_has_d16 wt_ci_0 ?_
    cases h
    exact wt_zret hE (by decide) hR wp_tx_has_d17
  · have h := wt_in c1 h
    refine wt_iload_n hE wp_tx_has_d4 rfl ?_
    refine wt_aload_n hE wp_tx_has_d5 rfl ?_
    refine wt_geti hE wt_lf_tx_24 (hD 34 (Nat.le_of_ble_eq_true rfl)) wt_L34 rfl wp_tx_has_d6 ?_
    refine wt_icmp_ge hE 16 wp_tx_has_d9 rfl (fun c2 => ?_) (fun c2 => ?_)
    · have h := wt_ip c2 h
      refine wt_iconst hE (0 : Int32) wp_tx_has_d16 wt_ci_0 ?_
      cases h
      exact wt_zret hE (by decide) hR wp_tx_has_d17
    · have h := wt_in c2 h
      refine wt_iconst hE (1 : Int32) wp_tx_has_d12 wt_ci_1 ?_
      refine wt_goto hE 17 wp_tx_has_d13 rfl ?_
      cases h
      exact wt_zret hE (by decide) hR wp_tx_has_d17
def wb10m0_prog_8_method_3_code_r0 : List (List Nat) := [42, 180, 0, 15, 27, 184, 0, 28, 172] :: []
set_option maxRecDepth 100000 in
theorem wb10m0_prog_8_method_3_code_c0 : wt_cs prog_8_method_3_code 0 wb10m0_prog_8_method_3_code_r0 := wt_cs_of (by decide +kernel)
theorem wp_tx_lengthOf_d0 : decode prog_8_method_3_code 0 = .ok (.aload_n 0, 1) := wt_op42 wb10m0_prog_8_method_3_code_c0 0 rfl rfl
theorem wp_tx_lengthOf_d1 : decode prog_8_method_3_code 1 = .ok (.getfield 15, 3) := wt_op180 wb10m0_prog_8_method_3_code_c0 1 rfl rfl rfl
theorem wp_tx_lengthOf_d4 : decode prog_8_method_3_code 4 = .ok (.iload_n 1, 1) := wt_op27 wb10m0_prog_8_method_3_code_c0 4 rfl rfl
theorem wp_tx_lengthOf_d5 : decode prog_8_method_3_code 5 = .ok (.invokestatic 28, 3) := wt_op184 wb10m0_prog_8_method_3_code_c0 5 rfl rfl rfl
theorem wp_tx_lengthOf_d8 : decode prog_8_method_3_code 8 = .ok (.ireturn, 1) := wt_op172 wb10m0_prog_8_method_3_code_c0 8 rfl rfl
noncomputable def wp_tx_lengthOf (n : Nat) (x1 : Int32) (σ : wt_St) : Option (Int32 × wt_St) :=
  (wp_ap_look n 36 x1 σ).bind fun q1 =>
  some (q1.1, q1.2)
set_option maxRecDepth 100000 in
set_option maxHeartbeats 4000000 in
theorem wp_tx_lengthOf_ok {l : Launch} {w : wt_E} {n : Nat} {x1 : Int32} (hD : ∀ i, i < 108 → wt_dom w i) {σ : wt_St} {q : Int32 × wt_St} (h : wp_tx_lengthOf n x1 σ = some q) : wt_Ctr l w wt_y_tx_lengthOf prog_8_method_3_code 2 (some .int) 1 [.ref (wt_ad w 34), .int x1] σ (some q.1) q.2 := by
  refine wt_ctr wt_pl_tx_lengthOf rfl (Nat.le_of_ble_eq_true rfl) [some (.ref (wt_ad w 34)), some (.int x1)] rfl ?_
  intro X hXl hXw hE hR
  subst hXl
  subst hXw
  have hE : wt_Ok X prog_8_method_3_code 2 "WornType$Texts" 1 0 := hE
  unfold wp_tx_lengthOf at h
  refine wt_aload_n hE wp_tx_lengthOf_d0 rfl ?_
  refine wt_getr hE (r := 36) wt_lf_tx_15 (hD 34 (Nat.le_of_ble_eq_true rfl)) wt_L34 rfl wp_tx_lengthOf_d1 ?_
  refine wt_iload_n hE wp_tx_lengthOf_d4 rfl ?_
  obtain ⟨q1, hq1, h⟩ := wt_bi h
  refine wt_callSi hE [.ref (wt_ad (wt_xw X) 36), .int x1] wt_lm_tx_28 wt_ya_ap_look (wp_ap_look_ok (wt_lnE wt_L36) (hD 36 (Nat.le_of_ble_eq_true rfl)) hq1) (by omega) rfl rfl (Nat.le_of_ble_eq_true rfl) (Nat.zero_le _) wp_tx_lengthOf_d5 (fun hbq1 => ?_)
  cases h
  exact wt_iret hE hR wp_tx_lengthOf_d8
def wb10m0_prog_8_method_4_code_r1 : List (List Nat) := [2, 172] :: []
def wb10m0_prog_8_method_4_code_r0 : List (List Nat) := [28, 155, 0, 28, 28, 42, 27, 182, 0, 32, 162, 0, 19, 42, 180, 0, 9, 27, 16, 12, 104, 28, 96, 184, 0, 28, 167, 0, 4] :: wb10m0_prog_8_method_4_code_r1
set_option maxRecDepth 100000 in
theorem wb10m0_prog_8_method_4_code_c0 : wt_cs prog_8_method_4_code 0 wb10m0_prog_8_method_4_code_r0 := wt_cs_of (by decide +kernel)
theorem wb10m0_prog_8_method_4_code_c1 : wt_cs prog_8_method_4_code 29 wb10m0_prog_8_method_4_code_r1 := wt_cs_tl (m := 29) wb10m0_prog_8_method_4_code_c0 rfl rfl
theorem wp_tx_wordAt_d0 : decode prog_8_method_4_code 0 = .ok (.iload_n 2, 1) := wt_op28 wb10m0_prog_8_method_4_code_c0 0 rfl rfl
theorem wp_tx_wordAt_d1 : decode prog_8_method_4_code 1 = .ok (.ifCond .lt 28, 3) := wt_op155 wb10m0_prog_8_method_4_code_c0 1 rfl rfl rfl
theorem wp_tx_wordAt_d4 : decode prog_8_method_4_code 4 = .ok (.iload_n 2, 1) := wt_op28 wb10m0_prog_8_method_4_code_c0 4 rfl rfl
theorem wp_tx_wordAt_d5 : decode prog_8_method_4_code 5 = .ok (.aload_n 0, 1) := wt_op42 wb10m0_prog_8_method_4_code_c0 5 rfl rfl
theorem wp_tx_wordAt_d6 : decode prog_8_method_4_code 6 = .ok (.iload_n 1, 1) := wt_op27 wb10m0_prog_8_method_4_code_c0 6 rfl rfl
theorem wp_tx_wordAt_d7 : decode prog_8_method_4_code 7 = .ok (.invokevirtual 32, 3) := wt_op182 wb10m0_prog_8_method_4_code_c0 7 rfl rfl rfl
theorem wp_tx_wordAt_d10 : decode prog_8_method_4_code 10 = .ok (.if_icmp .ge 19, 3) := wt_op162 wb10m0_prog_8_method_4_code_c0 10 rfl rfl rfl
theorem wp_tx_wordAt_d13 : decode prog_8_method_4_code 13 = .ok (.aload_n 0, 1) := wt_op42 wb10m0_prog_8_method_4_code_c0 13 rfl rfl
theorem wp_tx_wordAt_d14 : decode prog_8_method_4_code 14 = .ok (.getfield 9, 3) := wt_op180 wb10m0_prog_8_method_4_code_c0 14 rfl rfl rfl
theorem wp_tx_wordAt_d17 : decode prog_8_method_4_code 17 = .ok (.iload_n 1, 1) := wt_op27 wb10m0_prog_8_method_4_code_c0 17 rfl rfl
theorem wp_tx_wordAt_d18 : decode prog_8_method_4_code 18 = .ok (.bipush 12, 2) := wt_op16 wb10m0_prog_8_method_4_code_c0 18 rfl rfl rfl
theorem wp_tx_wordAt_d20 : decode prog_8_method_4_code 20 = .ok (.imul, 1) := wt_op104 wb10m0_prog_8_method_4_code_c0 20 rfl rfl
theorem wp_tx_wordAt_d21 : decode prog_8_method_4_code 21 = .ok (.iload_n 2, 1) := wt_op28 wb10m0_prog_8_method_4_code_c0 21 rfl rfl
theorem wp_tx_wordAt_d22 : decode prog_8_method_4_code 22 = .ok (.iadd, 1) := wt_op96 wb10m0_prog_8_method_4_code_c0 22 rfl rfl
theorem wp_tx_wordAt_d23 : decode prog_8_method_4_code 23 = .ok (.invokestatic 28, 3) := wt_op184 wb10m0_prog_8_method_4_code_c0 23 rfl rfl rfl
theorem wp_tx_wordAt_d26 : decode prog_8_method_4_code 26 = .ok (.goto 4, 3) := wt_op167 wb10m0_prog_8_method_4_code_c0 26 rfl rfl rfl
theorem wp_tx_wordAt_d29 : decode prog_8_method_4_code 29 = .ok (.iconst (-1), 1) := wt_op2 wb10m0_prog_8_method_4_code_c1 0 rfl rfl
theorem wp_tx_wordAt_d30 : decode prog_8_method_4_code 30 = .ok (.ireturn, 1) := wt_op172 wb10m0_prog_8_method_4_code_c1 1 rfl rfl
noncomputable def wp_tx_wordAt (n : Nat) (x1 : Int32) (x2 : Int32) (σ : wt_St) : Option (Int32 × wt_St) :=
  if x2 < 0 then
    some ((-1 : Int32), σ)
  else
    (wp_tx_lengthOf n x1 σ).bind fun q2 =>
    if q2.1 ≤ x2 then
      some ((-1 : Int32), q2.2)
    else
      (wp_ap_look n 35 ((x1 * (12 : Int32)) + x2) q2.2).bind fun q4 =>
      some (q4.1, q4.2)
set_option maxRecDepth 100000 in
set_option maxHeartbeats 4000000 in
theorem wp_tx_wordAt_ok {l : Launch} {w : wt_E} {n : Nat} {x1 : Int32} {x2 : Int32} (hD : ∀ i, i < 108 → wt_dom w i) {σ : wt_St} {q : Int32 × wt_St} (h : wp_tx_wordAt n x1 x2 σ = some q) : wt_Ctr l w wt_y_tx_wordAt prog_8_method_4_code 3 (some .int) 2 [.ref (wt_ad w 34), .int x1, .int x2] σ (some q.1) q.2 := by
  refine wt_ctr wt_pl_tx_wordAt rfl (Nat.le_of_ble_eq_true rfl) [some (.ref (wt_ad w 34)), some (.int x1), some (.int x2)] rfl ?_
  intro X hXl hXw hE hR
  subst hXl
  subst hXw
  have hE : wt_Ok X prog_8_method_4_code 3 "WornType$Texts" 2 0 := hE
  unfold wp_tx_wordAt at h
  refine wt_iload_n hE wp_tx_wordAt_d0 rfl ?_
  refine wt_if_lt hE 29 wp_tx_wordAt_d1 rfl (fun c1 => ?_) (fun c1 => ?_)
  · have h := wt_ip c1 h
    refine wt_iconst hE (-1 : Int32) wp_tx_wordAt_d29 wt_ci_m1 ?_
    cases h
    exact wt_iret hE hR wp_tx_wordAt_d30
  · have h := wt_in c1 h
    refine wt_iload_n hE wp_tx_wordAt_d4 rfl ?_
    refine wt_aload_n hE wp_tx_wordAt_d5 rfl ?_
    refine wt_iload_n hE wp_tx_wordAt_d6 rfl ?_
    obtain ⟨q2, hq2, h⟩ := wt_bi h
    refine wt_callVi hE [.int x1] wt_lm_tx_32 wt_ya_tx_lengthOf (wp_tx_lengthOf_ok hD hq2) (by omega) (hD 34 (Nat.le_of_ble_eq_true rfl)) wt_L34 rfl rfl rfl (Nat.le_of_ble_eq_true rfl) (Nat.zero_le _) wp_tx_wordAt_d7 (fun hbq2 => ?_)
    refine wt_icmp_ge hE 29 wp_tx_wordAt_d10 rfl (fun c3 => ?_) (fun c3 => ?_)
    · have h := wt_ip c3 h
      refine wt_iconst hE (-1 : Int32) wp_tx_wordAt_d29 wt_ci_m1 ?_
      cases h
      exact wt_iret hE hR wp_tx_wordAt_d30
    · have h := wt_in c3 h
      refine wt_aload_n hE wp_tx_wordAt_d13 rfl ?_
      refine wt_getr hE (r := 35) wt_lf_tx_9 (hD 34 (Nat.le_of_ble_eq_true rfl)) wt_L34 rfl wp_tx_wordAt_d14 ?_
      refine wt_iload_n hE wp_tx_wordAt_d17 rfl ?_
      refine wt_bipush hE (12 : Int32) wp_tx_wordAt_d18 wt_cb_12 ?_
      refine wt_imul hE wp_tx_wordAt_d20 ?_
      refine wt_iload_n hE wp_tx_wordAt_d21 rfl ?_
      refine wt_iadd hE wp_tx_wordAt_d22 ?_
      obtain ⟨q4, hq4, h⟩ := wt_bi h
      refine wt_callSi hE [.ref (wt_ad (wt_xw X) 35), .int ((x1 * (12 : Int32)) + x2)] wt_lm_tx_28 wt_ya_ap_look (wp_ap_look_ok (wt_lnE wt_L35) (hD 35 (Nat.le_of_ble_eq_true rfl)) hq4) (by omega) rfl rfl (Nat.le_of_ble_eq_true rfl) (Nat.zero_le _) wp_tx_wordAt_d23 (fun hbq4 => ?_)
      refine wt_goto hE 30 wp_tx_wordAt_d26 rfl ?_
      cases h
      exact wt_iret hE hR wp_tx_wordAt_d30
def wb10m0_prog_6_method_15_code_r0 : List (List Nat) := [42, 180, 0, 15, 180, 0, 70, 27, 184, 0, 25, 2, 160, 0, 7, 4, 167, 0, 4, 3, 172] :: []
set_option maxRecDepth 100000 in
theorem wb10m0_prog_6_method_15_code_c0 : wt_cs prog_6_method_15_code 0 wb10m0_prog_6_method_15_code_r0 := wt_cs_of (by decide +kernel)
theorem wp_sk_lies_d0 : decode prog_6_method_15_code 0 = .ok (.aload_n 0, 1) := wt_op42 wb10m0_prog_6_method_15_code_c0 0 rfl rfl
theorem wp_sk_lies_d1 : decode prog_6_method_15_code 1 = .ok (.getfield 15, 3) := wt_op180 wb10m0_prog_6_method_15_code_c0 1 rfl rfl rfl
theorem wp_sk_lies_d4 : decode prog_6_method_15_code 4 = .ok (.getfield 70, 3) := wt_op180 wb10m0_prog_6_method_15_code_c0 4 rfl rfl rfl
theorem wp_sk_lies_d7 : decode prog_6_method_15_code 7 = .ok (.iload_n 1, 1) := wt_op27 wb10m0_prog_6_method_15_code_c0 7 rfl rfl
theorem wp_sk_lies_d8 : decode prog_6_method_15_code 8 = .ok (.invokestatic 25, 3) := wt_op184 wb10m0_prog_6_method_15_code_c0 8 rfl rfl rfl
theorem wp_sk_lies_d11 : decode prog_6_method_15_code 11 = .ok (.iconst (-1), 1) := wt_op2 wb10m0_prog_6_method_15_code_c0 11 rfl rfl
theorem wp_sk_lies_d12 : decode prog_6_method_15_code 12 = .ok (.if_icmp .ne 7, 3) := wt_op160 wb10m0_prog_6_method_15_code_c0 12 rfl rfl rfl
theorem wp_sk_lies_d15 : decode prog_6_method_15_code 15 = .ok (.iconst 1, 1) := wt_op4 wb10m0_prog_6_method_15_code_c0 15 rfl rfl
theorem wp_sk_lies_d16 : decode prog_6_method_15_code 16 = .ok (.goto 4, 3) := wt_op167 wb10m0_prog_6_method_15_code_c0 16 rfl rfl rfl
theorem wp_sk_lies_d19 : decode prog_6_method_15_code 19 = .ok (.iconst 0, 1) := wt_op3 wb10m0_prog_6_method_15_code_c0 19 rfl rfl
theorem wp_sk_lies_d20 : decode prog_6_method_15_code 20 = .ok (.ireturn, 1) := wt_op172 wb10m0_prog_6_method_15_code_c0 20 rfl rfl
noncomputable def wp_sk_lies (n : Nat) (x1 : Int32) (σ : wt_St) : Option (Int32 × wt_St) :=
  (wp_ap_look n 41 x1 σ).bind fun q1 =>
  if q1.1 = (-1 : Int32) then
    some ((1 : Int32), q1.2)
  else
    some ((0 : Int32), q1.2)
set_option maxRecDepth 100000 in
set_option maxHeartbeats 4000000 in
theorem wp_sk_lies_ok {l : Launch} {w : wt_E} {n : Nat} {x1 : Int32} (hD : ∀ i, i < 108 → wt_dom w i) {σ : wt_St} {q : Int32 × wt_St} (h : wp_sk_lies n x1 σ = some q) : wt_Ctr l w wt_y_sk_lies prog_6_method_15_code 2 (some .boolean) 1 [.ref (wt_ad w 76), .int x1] σ (some q.1) q.2 := by
  refine wt_ctr wt_pl_sk_lies rfl (Nat.le_of_ble_eq_true rfl) [some (.ref (wt_ad w 76)), some (.int x1)] rfl ?_
  intro X hXl hXw hE hR
  subst hXl
  subst hXw
  have hE : wt_Ok X prog_6_method_15_code 2 "WornType$Stock" 1 0 := hE
  unfold wp_sk_lies at h
  refine wt_aload_n hE wp_sk_lies_d0 rfl ?_
  refine wt_getr hE (r := 39) wt_lf_sk_15 (hD 76 (Nat.le_of_ble_eq_true rfl)) wt_L76 rfl wp_sk_lies_d1 ?_
  refine wt_getr hE (r := 41) wt_lf_sk_70 (hD 39 (Nat.le_of_ble_eq_true rfl)) wt_L39 rfl wp_sk_lies_d4 ?_
  refine wt_iload_n hE wp_sk_lies_d7 rfl ?_
  obtain ⟨q1, hq1, h⟩ := wt_bi h
  refine wt_callSi hE [.ref (wt_ad (wt_xw X) 41), .int x1] wt_lm_sk_25 wt_ya_ap_look (wp_ap_look_ok (wt_lnE wt_L41) (hD 41 (Nat.le_of_ble_eq_true rfl)) hq1) (by omega) rfl rfl (Nat.le_of_ble_eq_true rfl) (Nat.zero_le _) wp_sk_lies_d8 (fun hbq1 => ?_)
  refine wt_iconst hE (-1 : Int32) wp_sk_lies_d11 wt_ci_m1 ?_
  refine wt_icmp_ne hE 19 wp_sk_lies_d12 rfl (fun c2 => ?_) (fun c2 => ?_)
  · have h := wt_in c2 h
    refine wt_iconst hE (0 : Int32) wp_sk_lies_d19 wt_ci_0 ?_
    cases h
    exact wt_zret hE (by decide) hR wp_sk_lies_d20
  · have h := wt_ip c2 h
    refine wt_iconst hE (1 : Int32) wp_sk_lies_d15 wt_ci_1 ?_
    refine wt_goto hE 20 wp_sk_lies_d16 rfl ?_
    cases h
    exact wt_zret hE (by decide) hR wp_sk_lies_d20
def wb10m0_prog_6_method_2_code_r0 : List (List Nat) := [42, 180, 0, 9, 180, 0, 19, 27, 184, 0, 25, 172] :: []
set_option maxRecDepth 100000 in
theorem wb10m0_prog_6_method_2_code_c0 : wt_cs prog_6_method_2_code 0 wb10m0_prog_6_method_2_code_r0 := wt_cs_of (by decide +kernel)
theorem wp_sk_pieces_d0 : decode prog_6_method_2_code 0 = .ok (.aload_n 0, 1) := wt_op42 wb10m0_prog_6_method_2_code_c0 0 rfl rfl
theorem wp_sk_pieces_d1 : decode prog_6_method_2_code 1 = .ok (.getfield 9, 3) := wt_op180 wb10m0_prog_6_method_2_code_c0 1 rfl rfl rfl
theorem wp_sk_pieces_d4 : decode prog_6_method_2_code 4 = .ok (.getfield 19, 3) := wt_op180 wb10m0_prog_6_method_2_code_c0 4 rfl rfl rfl
theorem wp_sk_pieces_d7 : decode prog_6_method_2_code 7 = .ok (.iload_n 1, 1) := wt_op27 wb10m0_prog_6_method_2_code_c0 7 rfl rfl
theorem wp_sk_pieces_d8 : decode prog_6_method_2_code 8 = .ok (.invokestatic 25, 3) := wt_op184 wb10m0_prog_6_method_2_code_c0 8 rfl rfl rfl
theorem wp_sk_pieces_d11 : decode prog_6_method_2_code 11 = .ok (.ireturn, 1) := wt_op172 wb10m0_prog_6_method_2_code_c0 11 rfl rfl
noncomputable def wp_sk_pieces (n : Nat) (x1 : Int32) (σ : wt_St) : Option (Int32 × wt_St) :=
  (wp_ap_look n 5 x1 σ).bind fun q1 =>
  some (q1.1, q1.2)
set_option maxRecDepth 100000 in
set_option maxHeartbeats 4000000 in
theorem wp_sk_pieces_ok {l : Launch} {w : wt_E} {n : Nat} {x1 : Int32} (hD : ∀ i, i < 108 → wt_dom w i) {σ : wt_St} {q : Int32 × wt_St} (h : wp_sk_pieces n x1 σ = some q) : wt_Ctr l w wt_y_sk_pieces prog_6_method_2_code 2 (some .int) 1 [.ref (wt_ad w 76), .int x1] σ (some q.1) q.2 := by
  refine wt_ctr wt_pl_sk_pieces rfl (Nat.le_of_ble_eq_true rfl) [some (.ref (wt_ad w 76)), some (.int x1)] rfl ?_
  intro X hXl hXw hE hR
  subst hXl
  subst hXw
  have hE : wt_Ok X prog_6_method_2_code 2 "WornType$Stock" 1 0 := hE
  unfold wp_sk_pieces at h
  refine wt_aload_n hE wp_sk_pieces_d0 rfl ?_
  refine wt_getr hE (r := 4) wt_lf_sk_9 (hD 76 (Nat.le_of_ble_eq_true rfl)) wt_L76 rfl wp_sk_pieces_d1 ?_
  refine wt_getr hE (r := 5) wt_lf_sk_19 (hD 4 (Nat.le_of_ble_eq_true rfl)) wt_L4 rfl wp_sk_pieces_d4 ?_
  refine wt_iload_n hE wp_sk_pieces_d7 rfl ?_
  obtain ⟨q1, hq1, h⟩ := wt_bi h
  refine wt_callSi hE [.ref (wt_ad (wt_xw X) 5), .int x1] wt_lm_sk_25 wt_ya_ap_look (wp_ap_look_ok (wt_lnE wt_L5) (hD 5 (Nat.le_of_ble_eq_true rfl)) hq1) (by omega) rfl rfl (Nat.le_of_ble_eq_true rfl) (Nat.zero_le _) wp_sk_pieces_d8 (fun hbq1 => ?_)
  cases h
  exact wt_iret hE hR wp_sk_pieces_d11
def wb10m0_prog_6_method_6_code_r2 : List (List Nat) := [172] :: []
def wb10m0_prog_6_method_6_code_r1 : List (List Nat) := [153, 0, 18, 42, 180, 0, 15, 180, 0, 32, 21, 4, 184, 0, 25, 167, 0, 4, 3, 96, 61, 132, 3, 1, 167, 255, 208, 28] :: wb10m0_prog_6_method_6_code_r2
def wb10m0_prog_6_method_6_code_r0 : List (List Nat) := [3, 61, 3, 62, 29, 42, 27, 182, 0, 29, 162, 0, 45, 27, 16, 12, 104, 29, 96, 54, 4, 28, 42, 21, 4, 182, 0, 41] :: wb10m0_prog_6_method_6_code_r1
set_option maxRecDepth 100000 in
theorem wb10m0_prog_6_method_6_code_c0 : wt_cs prog_6_method_6_code 0 wb10m0_prog_6_method_6_code_r0 := wt_cs_of (by decide +kernel)
theorem wb10m0_prog_6_method_6_code_c1 : wt_cs prog_6_method_6_code 28 wb10m0_prog_6_method_6_code_r1 := wt_cs_tl (m := 28) wb10m0_prog_6_method_6_code_c0 rfl rfl
theorem wb10m0_prog_6_method_6_code_c2 : wt_cs prog_6_method_6_code 56 wb10m0_prog_6_method_6_code_r2 := wt_cs_tl (m := 28) wb10m0_prog_6_method_6_code_c1 rfl rfl
theorem wp_sk_leftInCase_d0 : decode prog_6_method_6_code 0 = .ok (.iconst 0, 1) := wt_op3 wb10m0_prog_6_method_6_code_c0 0 rfl rfl
theorem wp_sk_leftInCase_d1 : decode prog_6_method_6_code 1 = .ok (.istore_n 2, 1) := wt_op61 wb10m0_prog_6_method_6_code_c0 1 rfl rfl
theorem wp_sk_leftInCase_d2 : decode prog_6_method_6_code 2 = .ok (.iconst 0, 1) := wt_op3 wb10m0_prog_6_method_6_code_c0 2 rfl rfl
theorem wp_sk_leftInCase_d3 : decode prog_6_method_6_code 3 = .ok (.istore_n 3, 1) := wt_op62 wb10m0_prog_6_method_6_code_c0 3 rfl rfl
theorem wp_sk_leftInCase_d4 : decode prog_6_method_6_code 4 = .ok (.iload_n 3, 1) := wt_op29 wb10m0_prog_6_method_6_code_c0 4 rfl rfl
theorem wp_sk_leftInCase_d5 : decode prog_6_method_6_code 5 = .ok (.aload_n 0, 1) := wt_op42 wb10m0_prog_6_method_6_code_c0 5 rfl rfl
theorem wp_sk_leftInCase_d6 : decode prog_6_method_6_code 6 = .ok (.iload_n 1, 1) := wt_op27 wb10m0_prog_6_method_6_code_c0 6 rfl rfl
theorem wp_sk_leftInCase_d7 : decode prog_6_method_6_code 7 = .ok (.invokevirtual 29, 3) := wt_op182 wb10m0_prog_6_method_6_code_c0 7 rfl rfl rfl
theorem wp_sk_leftInCase_d10 : decode prog_6_method_6_code 10 = .ok (.if_icmp .ge 45, 3) := wt_op162 wb10m0_prog_6_method_6_code_c0 10 rfl rfl rfl
theorem wp_sk_leftInCase_d13 : decode prog_6_method_6_code 13 = .ok (.iload_n 1, 1) := wt_op27 wb10m0_prog_6_method_6_code_c0 13 rfl rfl
theorem wp_sk_leftInCase_d14 : decode prog_6_method_6_code 14 = .ok (.bipush 12, 2) := wt_op16 wb10m0_prog_6_method_6_code_c0 14 rfl rfl rfl
theorem wp_sk_leftInCase_d16 : decode prog_6_method_6_code 16 = .ok (.imul, 1) := wt_op104 wb10m0_prog_6_method_6_code_c0 16 rfl rfl
theorem wp_sk_leftInCase_d17 : decode prog_6_method_6_code 17 = .ok (.iload_n 3, 1) := wt_op29 wb10m0_prog_6_method_6_code_c0 17 rfl rfl
theorem wp_sk_leftInCase_d18 : decode prog_6_method_6_code 18 = .ok (.iadd, 1) := wt_op96 wb10m0_prog_6_method_6_code_c0 18 rfl rfl
theorem wp_sk_leftInCase_d19 : decode prog_6_method_6_code 19 = .ok (.istore 4, 2) := wt_op54 wb10m0_prog_6_method_6_code_c0 19 rfl rfl
theorem wp_sk_leftInCase_d21 : decode prog_6_method_6_code 21 = .ok (.iload_n 2, 1) := wt_op28 wb10m0_prog_6_method_6_code_c0 21 rfl rfl
theorem wp_sk_leftInCase_d22 : decode prog_6_method_6_code 22 = .ok (.aload_n 0, 1) := wt_op42 wb10m0_prog_6_method_6_code_c0 22 rfl rfl
theorem wp_sk_leftInCase_d23 : decode prog_6_method_6_code 23 = .ok (.iload 4, 2) := wt_op21 wb10m0_prog_6_method_6_code_c0 23 rfl rfl
theorem wp_sk_leftInCase_d25 : decode prog_6_method_6_code 25 = .ok (.invokevirtual 41, 3) := wt_op182 wb10m0_prog_6_method_6_code_c0 25 rfl rfl rfl
theorem wp_sk_leftInCase_d28 : decode prog_6_method_6_code 28 = .ok (.ifCond .eq 18, 3) := wt_op153 wb10m0_prog_6_method_6_code_c1 0 rfl rfl rfl
theorem wp_sk_leftInCase_d31 : decode prog_6_method_6_code 31 = .ok (.aload_n 0, 1) := wt_op42 wb10m0_prog_6_method_6_code_c1 3 rfl rfl
theorem wp_sk_leftInCase_d32 : decode prog_6_method_6_code 32 = .ok (.getfield 15, 3) := wt_op180 wb10m0_prog_6_method_6_code_c1 4 rfl rfl rfl
theorem wp_sk_leftInCase_d35 : decode prog_6_method_6_code 35 = .ok (.getfield 32, 3) := wt_op180 wb10m0_prog_6_method_6_code_c1 7 rfl rfl rfl
theorem wp_sk_leftInCase_d38 : decode prog_6_method_6_code 38 = .ok (.iload 4, 2) := wt_op21 wb10m0_prog_6_method_6_code_c1 10 rfl rfl
theorem wp_sk_leftInCase_d40 : decode prog_6_method_6_code 40 = .ok (.invokestatic 25, 3) := wt_op184 wb10m0_prog_6_method_6_code_c1 12 rfl rfl rfl
theorem wp_sk_leftInCase_d43 : decode prog_6_method_6_code 43 = .ok (.goto 4, 3) := wt_op167 wb10m0_prog_6_method_6_code_c1 15 rfl rfl rfl
theorem wp_sk_leftInCase_d46 : decode prog_6_method_6_code 46 = .ok (.iconst 0, 1) := wt_op3 wb10m0_prog_6_method_6_code_c1 18 rfl rfl
theorem wp_sk_leftInCase_d47 : decode prog_6_method_6_code 47 = .ok (.iadd, 1) := wt_op96 wb10m0_prog_6_method_6_code_c1 19 rfl rfl
theorem wp_sk_leftInCase_d48 : decode prog_6_method_6_code 48 = .ok (.istore_n 2, 1) := wt_op61 wb10m0_prog_6_method_6_code_c1 20 rfl rfl
theorem wp_sk_leftInCase_d49 : decode prog_6_method_6_code 49 = .ok (.iinc 3 1, 3) := wt_op132 wb10m0_prog_6_method_6_code_c1 21 rfl rfl rfl
theorem wp_sk_leftInCase_d52 : decode prog_6_method_6_code 52 = .ok (.goto (-48), 3) := wt_op167 wb10m0_prog_6_method_6_code_c1 24 rfl rfl rfl
theorem wp_sk_leftInCase_d55 : decode prog_6_method_6_code 55 = .ok (.iload_n 2, 1) := wt_op28 wb10m0_prog_6_method_6_code_c1 27 rfl rfl
theorem wp_sk_leftInCase_d56 : decode prog_6_method_6_code 56 = .ok (.ireturn, 1) := wt_op172 wb10m0_prog_6_method_6_code_c2 0 rfl rfl
noncomputable def wp_sk_leftInCase_B47 (n : Nat) (x1 : Int32) (x3 : Int32) (K4 : Int32 × Int32 × wt_St → Option (Int32 × wt_St)) (y0 : Int32) (y1 : Int32) (σ : wt_St) : Option (Int32 × wt_St) :=
  K4 ((y0 + y1), (x3 + (1 : Int32)), σ)
set_option maxRecDepth 100000 in
set_option maxHeartbeats 4000000 in
theorem wp_sk_leftInCase_B47_ok  {x1 : Int32} {x3 : Int32} {X : wt_X} {n : Nat} {res : Int32 × wt_St} (hE : wt_Ok X prog_6_method_6_code 5 "WornType$Stock" 2 0) (hR : wt_Rt X (some .int) (some res.1) res.2) (hD : ∀ i, i < 108 → wt_dom (wt_xw X) i)  {K4 : Int32 × Int32 × wt_St → Option (Int32 × wt_St)} (hK4 : ∀ s : Int32 × Int32 × wt_St, K4 s = some res → wt_V X 0 s.2.2 4 [some (.ref (wt_ad (wt_xw X) 76)), some (.int x1), some (.int s.1), some (.int s.2.1), none] []) {σ : wt_St} {y0 : Int32} {y1 : Int32} (h : wp_sk_leftInCase_B47 n x1 x3 K4 y0 y1 σ = some res) : wt_V X 0 σ 47 [some (.ref (wt_ad (wt_xw X) 76)), some (.int x1), none, some (.int x3), none] [.int y1, .int y0] := by
  unfold wp_sk_leftInCase_B47 at h
  refine wt_iadd hE wp_sk_leftInCase_d47 ?_
  refine wt_istore_n hE [some (.ref (wt_ad (wt_xw X) 76)), some (.int x1), some (.int (y0 + y1)), some (.int x3), none] wp_sk_leftInCase_d48 (by decide) rfl ?_
  refine wt_iinc hE (x3 + (1 : Int32)) [some (.ref (wt_ad (wt_xw X) 76)), some (.int x1), some (.int (y0 + y1)), some (.int (x3 + (1 : Int32))), none] wp_sk_leftInCase_d49 (by decide) rfl rfl rfl ?_
  refine wt_goto hE 4 wp_sk_leftInCase_d52 rfl ?_
  exact hK4 ((y0 + y1), (x3 + (1 : Int32)), σ) h
noncomputable def wp_sk_leftInCase_B4 (n : Nat) (x1 : Int32) (K4 : Int32 × Int32 × wt_St → Option (Int32 × wt_St)) (s : Int32 × Int32 × wt_St) : Option (Int32 × wt_St) :=
  (wp_sk_pieces n x1 s.2.2).bind fun q1 =>
  if q1.1 ≤ s.2.1 then
    some (s.1, q1.2)
  else
    (wp_sk_lies n ((x1 * (12 : Int32)) + s.2.1) q1.2).bind fun q3 =>
    if q3.1 = 0 then
      wp_sk_leftInCase_B47 n x1 s.2.1 K4 s.1 (0 : Int32) q3.2
    else
      (wp_ap_look n 40 ((x1 * (12 : Int32)) + s.2.1) q3.2).bind fun q5 =>
      wp_sk_leftInCase_B47 n x1 s.2.1 K4 s.1 q5.1 q5.2
set_option maxRecDepth 100000 in
set_option maxHeartbeats 4000000 in
theorem wp_sk_leftInCase_B4_ok  {x1 : Int32} {X : wt_X} {n : Nat} {res : Int32 × wt_St} (hE : wt_Ok X prog_6_method_6_code 5 "WornType$Stock" 2 0) (hR : wt_Rt X (some .int) (some res.1) res.2) (hD : ∀ i, i < 108 → wt_dom (wt_xw X) i)  {K4 : Int32 × Int32 × wt_St → Option (Int32 × wt_St)} (hK4 : ∀ s : Int32 × Int32 × wt_St, K4 s = some res → wt_V X 0 s.2.2 4 [some (.ref (wt_ad (wt_xw X) 76)), some (.int x1), some (.int s.1), some (.int s.2.1), none] []) {s : Int32 × Int32 × wt_St} (h : wp_sk_leftInCase_B4 n x1 K4 s = some res) : wt_V X 0 s.2.2 4 [some (.ref (wt_ad (wt_xw X) 76)), some (.int x1), some (.int s.1), some (.int s.2.1), none] [] := by
  unfold wp_sk_leftInCase_B4 at h
  refine wt_iload_n hE wp_sk_leftInCase_d4 rfl ?_
  refine wt_aload_n hE wp_sk_leftInCase_d5 rfl ?_
  refine wt_iload_n hE wp_sk_leftInCase_d6 rfl ?_
  obtain ⟨q1, hq1, h⟩ := wt_bi h
  refine wt_callVi hE [.int x1] wt_lm_sk_29 wt_ya_sk_pieces (wp_sk_pieces_ok hD hq1) (by omega) (hD 76 (Nat.le_of_ble_eq_true rfl)) wt_L76 rfl rfl rfl (Nat.le_of_ble_eq_true rfl) (Nat.zero_le _) wp_sk_leftInCase_d7 (fun hbq1 => ?_)
  refine wt_icmp_ge hE 55 wp_sk_leftInCase_d10 rfl (fun c2 => ?_) (fun c2 => ?_)
  · have h := wt_ip c2 h
    refine wt_iload_n hE wp_sk_leftInCase_d55 rfl ?_
    cases h
    exact wt_iret hE hR wp_sk_leftInCase_d56
  · have h := wt_in c2 h
    refine wt_iload_n hE wp_sk_leftInCase_d13 rfl ?_
    refine wt_bipush hE (12 : Int32) wp_sk_leftInCase_d14 wt_cb_12 ?_
    refine wt_imul hE wp_sk_leftInCase_d16 ?_
    refine wt_iload_n hE wp_sk_leftInCase_d17 rfl ?_
    refine wt_iadd hE wp_sk_leftInCase_d18 ?_
    refine wt_istore hE [some (.ref (wt_ad (wt_xw X) 76)), some (.int x1), some (.int s.1), some (.int s.2.1), some (.int ((x1 * (12 : Int32)) + s.2.1))] wp_sk_leftInCase_d19 (Nat.le_of_ble_eq_true rfl) rfl ?_
    refine wt_iload_n hE wp_sk_leftInCase_d21 rfl ?_
    refine wt_aload_n hE wp_sk_leftInCase_d22 rfl ?_
    refine wt_iload hE wp_sk_leftInCase_d23 rfl ?_
    obtain ⟨q3, hq3, h⟩ := wt_bi h
    refine wt_callVi hE [.int ((x1 * (12 : Int32)) + s.2.1)] wt_lm_sk_41 wt_ya_sk_lies (wp_sk_lies_ok hD hq3) (by omega) (hD 76 (Nat.le_of_ble_eq_true rfl)) wt_L76 rfl rfl rfl (Nat.le_of_ble_eq_true rfl) (Nat.zero_le _) wp_sk_leftInCase_d25 (fun hbq3 => ?_)
    refine wt_if_eq hE 46 wp_sk_leftInCase_d28 rfl (fun c4 => ?_) (fun c4 => ?_)
    · have h := wt_ip c4 h
      refine wt_iconst hE (0 : Int32) wp_sk_leftInCase_d46 wt_ci_0 ?_
      refine wt_wk [true, true, false, true, false] rfl ?_
      exact wp_sk_leftInCase_B47_ok hE hR hD hK4 h
    · have h := wt_in c4 h
      refine wt_aload_n hE wp_sk_leftInCase_d31 rfl ?_
      refine wt_getr hE (r := 39) wt_lf_sk_15 (hD 76 (Nat.le_of_ble_eq_true rfl)) wt_L76 rfl wp_sk_leftInCase_d32 ?_
      refine wt_getr hE (r := 40) wt_lf_sk_32 (hD 39 (Nat.le_of_ble_eq_true rfl)) wt_L39 rfl wp_sk_leftInCase_d35 ?_
      refine wt_iload hE wp_sk_leftInCase_d38 rfl ?_
      obtain ⟨q5, hq5, h⟩ := wt_bi h
      refine wt_callSi hE [.ref (wt_ad (wt_xw X) 40), .int ((x1 * (12 : Int32)) + s.2.1)] wt_lm_sk_25 wt_ya_ap_look (wp_ap_look_ok (wt_lnE wt_L40) (hD 40 (Nat.le_of_ble_eq_true rfl)) hq5) (by omega) rfl rfl (Nat.le_of_ble_eq_true rfl) (Nat.zero_le _) wp_sk_leftInCase_d40 (fun hbq5 => ?_)
      refine wt_goto hE 47 wp_sk_leftInCase_d43 rfl ?_
      refine wt_wk [true, true, false, true, false] rfl ?_
      exact wp_sk_leftInCase_B47_ok hE hR hD hK4 h
noncomputable def wp_sk_leftInCase (n : Nat) (x1 : Int32) (σ : wt_St) : Option (Int32 × wt_St) :=
  wt_it (wp_sk_leftInCase_B4 n x1) n ((0 : Int32), (0 : Int32), σ)
set_option maxRecDepth 100000 in
set_option maxHeartbeats 4000000 in
theorem wp_sk_leftInCase_ok {l : Launch} {w : wt_E} {n : Nat} {x1 : Int32} (hD : ∀ i, i < 108 → wt_dom w i) {σ : wt_St} {q : Int32 × wt_St} (h : wp_sk_leftInCase n x1 σ = some q) : wt_Ctr l w wt_y_sk_leftInCase prog_6_method_6_code 5 (some .int) 2 [.ref (wt_ad w 76), .int x1] σ (some q.1) q.2 := by
  refine wt_ctr wt_pl_sk_leftInCase rfl (Nat.le_of_ble_eq_true rfl) [some (.ref (wt_ad w 76)), some (.int x1), none, none, none] rfl ?_
  intro X hXl hXw hE hR
  subst hXl
  subst hXw
  have hE : wt_Ok X prog_6_method_6_code 5 "WornType$Stock" 2 0 := hE
  unfold wp_sk_leftInCase at h
  refine wt_iconst hE (0 : Int32) wp_sk_leftInCase_d0 wt_ci_0 ?_
  refine wt_istore_n hE [some (.ref (wt_ad (wt_xw X) 76)), some (.int x1), some (.int (0 : Int32)), none, none] wp_sk_leftInCase_d1 (by decide) rfl ?_
  refine wt_iconst hE (0 : Int32) wp_sk_leftInCase_d2 wt_ci_0 ?_
  refine wt_istore_n hE [some (.ref (wt_ad (wt_xw X) 76)), some (.int x1), some (.int (0 : Int32)), some (.int (0 : Int32)), none] wp_sk_leftInCase_d3 (by decide) rfl ?_
  exact wt_it_ind (fun z => wt_V X 0 z.2.2 4 [some (.ref (wt_ad (wt_xw X) 76)), some (.int x1), some (.int z.1), some (.int z.2.1), none] []) (fun K hK z h => wp_sk_leftInCase_B4_ok hE hR hD hK h) n ((0 : Int32), (0 : Int32), σ) h
def wb10m0_prog_8_method_5_code_r0 : List (List Nat) := [42, 180, 0, 18, 27, 16, 26, 104, 28, 96, 184, 0, 28, 172] :: []
set_option maxRecDepth 100000 in
theorem wb10m0_prog_8_method_5_code_c0 : wt_cs prog_8_method_5_code 0 wb10m0_prog_8_method_5_code_r0 := wt_cs_of (by decide +kernel)
theorem wp_tx_needOf_d0 : decode prog_8_method_5_code 0 = .ok (.aload_n 0, 1) := wt_op42 wb10m0_prog_8_method_5_code_c0 0 rfl rfl
theorem wp_tx_needOf_d1 : decode prog_8_method_5_code 1 = .ok (.getfield 18, 3) := wt_op180 wb10m0_prog_8_method_5_code_c0 1 rfl rfl rfl
theorem wp_tx_needOf_d4 : decode prog_8_method_5_code 4 = .ok (.iload_n 1, 1) := wt_op27 wb10m0_prog_8_method_5_code_c0 4 rfl rfl
theorem wp_tx_needOf_d5 : decode prog_8_method_5_code 5 = .ok (.bipush 26, 2) := wt_op16 wb10m0_prog_8_method_5_code_c0 5 rfl rfl rfl
theorem wp_tx_needOf_d7 : decode prog_8_method_5_code 7 = .ok (.imul, 1) := wt_op104 wb10m0_prog_8_method_5_code_c0 7 rfl rfl
theorem wp_tx_needOf_d8 : decode prog_8_method_5_code 8 = .ok (.iload_n 2, 1) := wt_op28 wb10m0_prog_8_method_5_code_c0 8 rfl rfl
theorem wp_tx_needOf_d9 : decode prog_8_method_5_code 9 = .ok (.iadd, 1) := wt_op96 wb10m0_prog_8_method_5_code_c0 9 rfl rfl
theorem wp_tx_needOf_d10 : decode prog_8_method_5_code 10 = .ok (.invokestatic 28, 3) := wt_op184 wb10m0_prog_8_method_5_code_c0 10 rfl rfl rfl
theorem wp_tx_needOf_d13 : decode prog_8_method_5_code 13 = .ok (.ireturn, 1) := wt_op172 wb10m0_prog_8_method_5_code_c0 13 rfl rfl
noncomputable def wp_tx_needOf (n : Nat) (x1 : Int32) (x2 : Int32) (σ : wt_St) : Option (Int32 × wt_St) :=
  (wp_ap_look n 37 ((x1 * (26 : Int32)) + x2) σ).bind fun q1 =>
  some (q1.1, q1.2)
set_option maxRecDepth 100000 in
set_option maxHeartbeats 4000000 in
theorem wp_tx_needOf_ok {l : Launch} {w : wt_E} {n : Nat} {x1 : Int32} {x2 : Int32} (hD : ∀ i, i < 108 → wt_dom w i) {σ : wt_St} {q : Int32 × wt_St} (h : wp_tx_needOf n x1 x2 σ = some q) : wt_Ctr l w wt_y_tx_needOf prog_8_method_5_code 3 (some .int) 1 [.ref (wt_ad w 34), .int x1, .int x2] σ (some q.1) q.2 := by
  refine wt_ctr wt_pl_tx_needOf rfl (Nat.le_of_ble_eq_true rfl) [some (.ref (wt_ad w 34)), some (.int x1), some (.int x2)] rfl ?_
  intro X hXl hXw hE hR
  subst hXl
  subst hXw
  have hE : wt_Ok X prog_8_method_5_code 3 "WornType$Texts" 1 0 := hE
  unfold wp_tx_needOf at h
  refine wt_aload_n hE wp_tx_needOf_d0 rfl ?_
  refine wt_getr hE (r := 37) wt_lf_tx_18 (hD 34 (Nat.le_of_ble_eq_true rfl)) wt_L34 rfl wp_tx_needOf_d1 ?_
  refine wt_iload_n hE wp_tx_needOf_d4 rfl ?_
  refine wt_bipush hE (26 : Int32) wp_tx_needOf_d5 wt_cb_26 ?_
  refine wt_imul hE wp_tx_needOf_d7 ?_
  refine wt_iload_n hE wp_tx_needOf_d8 rfl ?_
  refine wt_iadd hE wp_tx_needOf_d9 ?_
  obtain ⟨q1, hq1, h⟩ := wt_bi h
  refine wt_callSi hE [.ref (wt_ad (wt_xw X) 37), .int ((x1 * (26 : Int32)) + x2)] wt_lm_tx_28 wt_ya_ap_look (wp_ap_look_ok (wt_lnE wt_L37) (hD 37 (Nat.le_of_ble_eq_true rfl)) hq1) (by omega) rfl rfl (Nat.le_of_ble_eq_true rfl) (Nat.zero_le _) wp_tx_needOf_d10 (fun hbq1 => ?_)
  cases h
  exact wt_iret hE hR wp_tx_needOf_d13
def wb10m0_prog_11_method_15_code_r1 : List (List Nat) := [104, 172] :: []
def wb10m0_prog_11_method_15_code_r0 : List (List Nat) := [42, 180, 0, 15, 42, 180, 0, 19, 180, 0, 127, 27, 184, 0, 70, 28, 182, 0, 154, 42, 180, 0, 19, 180, 0, 124, 27, 184, 0, 70] :: wb10m0_prog_11_method_15_code_r1
set_option maxRecDepth 100000 in
theorem wb10m0_prog_11_method_15_code_c0 : wt_cs prog_11_method_15_code 0 wb10m0_prog_11_method_15_code_r0 := wt_cs_of (by decide +kernel)
theorem wb10m0_prog_11_method_15_code_c1 : wt_cs prog_11_method_15_code 30 wb10m0_prog_11_method_15_code_r1 := wt_cs_tl (m := 30) wb10m0_prog_11_method_15_code_c0 rfl rfl
theorem wp_wk_printsOf_d0 : decode prog_11_method_15_code 0 = .ok (.aload_n 0, 1) := wt_op42 wb10m0_prog_11_method_15_code_c0 0 rfl rfl
theorem wp_wk_printsOf_d1 : decode prog_11_method_15_code 1 = .ok (.getfield 15, 3) := wt_op180 wb10m0_prog_11_method_15_code_c0 1 rfl rfl rfl
theorem wp_wk_printsOf_d4 : decode prog_11_method_15_code 4 = .ok (.aload_n 0, 1) := wt_op42 wb10m0_prog_11_method_15_code_c0 4 rfl rfl
theorem wp_wk_printsOf_d5 : decode prog_11_method_15_code 5 = .ok (.getfield 19, 3) := wt_op180 wb10m0_prog_11_method_15_code_c0 5 rfl rfl rfl
theorem wp_wk_printsOf_d8 : decode prog_11_method_15_code 8 = .ok (.getfield 127, 3) := wt_op180 wb10m0_prog_11_method_15_code_c0 8 rfl rfl rfl
theorem wp_wk_printsOf_d11 : decode prog_11_method_15_code 11 = .ok (.iload_n 1, 1) := wt_op27 wb10m0_prog_11_method_15_code_c0 11 rfl rfl
theorem wp_wk_printsOf_d12 : decode prog_11_method_15_code 12 = .ok (.invokestatic 70, 3) := wt_op184 wb10m0_prog_11_method_15_code_c0 12 rfl rfl rfl
theorem wp_wk_printsOf_d15 : decode prog_11_method_15_code 15 = .ok (.iload_n 2, 1) := wt_op28 wb10m0_prog_11_method_15_code_c0 15 rfl rfl
theorem wp_wk_printsOf_d16 : decode prog_11_method_15_code 16 = .ok (.invokevirtual 154, 3) := wt_op182 wb10m0_prog_11_method_15_code_c0 16 rfl rfl rfl
theorem wp_wk_printsOf_d19 : decode prog_11_method_15_code 19 = .ok (.aload_n 0, 1) := wt_op42 wb10m0_prog_11_method_15_code_c0 19 rfl rfl
theorem wp_wk_printsOf_d20 : decode prog_11_method_15_code 20 = .ok (.getfield 19, 3) := wt_op180 wb10m0_prog_11_method_15_code_c0 20 rfl rfl rfl
theorem wp_wk_printsOf_d23 : decode prog_11_method_15_code 23 = .ok (.getfield 124, 3) := wt_op180 wb10m0_prog_11_method_15_code_c0 23 rfl rfl rfl
theorem wp_wk_printsOf_d26 : decode prog_11_method_15_code 26 = .ok (.iload_n 1, 1) := wt_op27 wb10m0_prog_11_method_15_code_c0 26 rfl rfl
theorem wp_wk_printsOf_d27 : decode prog_11_method_15_code 27 = .ok (.invokestatic 70, 3) := wt_op184 wb10m0_prog_11_method_15_code_c0 27 rfl rfl rfl
theorem wp_wk_printsOf_d30 : decode prog_11_method_15_code 30 = .ok (.imul, 1) := wt_op104 wb10m0_prog_11_method_15_code_c1 0 rfl rfl
theorem wp_wk_printsOf_d31 : decode prog_11_method_15_code 31 = .ok (.ireturn, 1) := wt_op172 wb10m0_prog_11_method_15_code_c1 1 rfl rfl
noncomputable def wp_wk_printsOf (n : Nat) (x1 : Int32) (x2 : Int32) (σ : wt_St) : Option (Int32 × wt_St) :=
  (wp_ap_look n 44 x1 σ).bind fun q1 =>
  (wp_tx_needOf n q1.1 x2 q1.2).bind fun q2 =>
  (wp_ap_look n 45 x1 q2.2).bind fun q3 =>
  some ((q2.1 * q3.1), q3.2)
set_option maxRecDepth 100000 in
set_option maxHeartbeats 4000000 in
theorem wp_wk_printsOf_ok {l : Launch} {w : wt_E} {n : Nat} {x1 : Int32} {x2 : Int32} (hD : ∀ i, i < 108 → wt_dom w i) {σ : wt_St} {q : Int32 × wt_St} (h : wp_wk_printsOf n x1 x2 σ = some q) : wt_Ctr l w wt_y_wk_printsOf prog_11_method_15_code 3 (some .int) 2 [.ref (wt_ad w 86), .int x1, .int x2] σ (some q.1) q.2 := by
  refine wt_ctr wt_pl_wk_printsOf rfl (Nat.le_of_ble_eq_true rfl) [some (.ref (wt_ad w 86)), some (.int x1), some (.int x2)] rfl ?_
  intro X hXl hXw hE hR
  subst hXl
  subst hXw
  have hE : wt_Ok X prog_11_method_15_code 3 "WornType$Weeks" 2 0 := hE
  unfold wp_wk_printsOf at h
  refine wt_aload_n hE wp_wk_printsOf_d0 rfl ?_
  refine wt_getr hE (r := 34) wt_lf_wk_15 (hD 86 (Nat.le_of_ble_eq_true rfl)) wt_L86 rfl wp_wk_printsOf_d1 ?_
  refine wt_aload_n hE wp_wk_printsOf_d4 rfl ?_
  refine wt_getr hE (r := 39) wt_lf_wk_19 (hD 86 (Nat.le_of_ble_eq_true rfl)) wt_L86 rfl wp_wk_printsOf_d5 ?_
  refine wt_getr hE (r := 44) wt_lf_wk_127 (hD 39 (Nat.le_of_ble_eq_true rfl)) wt_L39 rfl wp_wk_printsOf_d8 ?_
  refine wt_iload_n hE wp_wk_printsOf_d11 rfl ?_
  obtain ⟨q1, hq1, h⟩ := wt_bi h
  refine wt_callSi hE [.ref (wt_ad (wt_xw X) 44), .int x1] wt_lm_wk_70 wt_ya_ap_look (wp_ap_look_ok (wt_lnE wt_L44) (hD 44 (Nat.le_of_ble_eq_true rfl)) hq1) (by omega) rfl rfl (Nat.le_of_ble_eq_true rfl) (Nat.zero_le _) wp_wk_printsOf_d12 (fun hbq1 => ?_)
  refine wt_iload_n hE wp_wk_printsOf_d15 rfl ?_
  obtain ⟨q2, hq2, h⟩ := wt_bi h
  refine wt_callVi hE [.int q1.1, .int x2] wt_lm_wk_154 wt_ya_tx_needOf (wp_tx_needOf_ok hD hq2) (by omega) (hD 34 (Nat.le_of_ble_eq_true rfl)) wt_L34 rfl rfl rfl (Nat.le_of_ble_eq_true rfl) (Nat.zero_le _) wp_wk_printsOf_d16 (fun hbq2 => ?_)
  refine wt_aload_n hE wp_wk_printsOf_d19 rfl ?_
  refine wt_getr hE (r := 39) wt_lf_wk_19 (hD 86 (Nat.le_of_ble_eq_true rfl)) wt_L86 rfl wp_wk_printsOf_d20 ?_
  refine wt_getr hE (r := 45) wt_lf_wk_124 (hD 39 (Nat.le_of_ble_eq_true rfl)) wt_L39 rfl wp_wk_printsOf_d23 ?_
  refine wt_iload_n hE wp_wk_printsOf_d26 rfl ?_
  obtain ⟨q3, hq3, h⟩ := wt_bi h
  refine wt_callSi hE [.ref (wt_ad (wt_xw X) 45), .int x1] wt_lm_wk_70 wt_ya_ap_look (wp_ap_look_ok (wt_lnE wt_L45) (hD 45 (Nat.le_of_ble_eq_true rfl)) hq3) (by omega) rfl rfl (Nat.le_of_ble_eq_true rfl) (Nat.zero_le _) wp_wk_printsOf_d27 (fun hbq3 => ?_)
  refine wt_imul hE wp_wk_printsOf_d30 ?_
  cases h
  exact wt_iret hE hR wp_wk_printsOf_d31
def wb10m0_prog_11_method_16_code_r3 : List (List Nat) := [172] :: []
def wb10m0_prog_11_method_16_code_r2 : List (List Nat) := [180, 0, 121, 29, 184, 0, 70, 42, 21, 4, 27, 182, 0, 151, 104, 164, 0, 6, 21, 4, 62, 132, 4, 1, 167, 255, 180, 29] :: wb10m0_prog_11_method_16_code_r3
def wb10m0_prog_11_method_16_code_r1 : List (List Nat) := [29, 2, 159, 0, 44, 42, 180, 0, 19, 180, 0, 121, 21, 4, 184, 0, 70, 42, 29, 27, 182, 0, 151, 104, 42, 180, 0, 19] :: wb10m0_prog_11_method_16_code_r2
def wb10m0_prog_11_method_16_code_r0 : List (List Nat) := [2, 62, 3, 54, 4, 21, 4, 42, 180, 0, 19, 180, 0, 67, 162, 0, 70, 28, 21, 4, 122, 4, 126, 153, 0, 6, 167, 0, 52] :: wb10m0_prog_11_method_16_code_r1
set_option maxRecDepth 100000 in
theorem wb10m0_prog_11_method_16_code_c0 : wt_cs prog_11_method_16_code 0 wb10m0_prog_11_method_16_code_r0 := wt_cs_of (by decide +kernel)
theorem wb10m0_prog_11_method_16_code_c1 : wt_cs prog_11_method_16_code 29 wb10m0_prog_11_method_16_code_r1 := wt_cs_tl (m := 29) wb10m0_prog_11_method_16_code_c0 rfl rfl
theorem wb10m0_prog_11_method_16_code_c2 : wt_cs prog_11_method_16_code 57 wb10m0_prog_11_method_16_code_r2 := wt_cs_tl (m := 28) wb10m0_prog_11_method_16_code_c1 rfl rfl
theorem wb10m0_prog_11_method_16_code_c3 : wt_cs prog_11_method_16_code 85 wb10m0_prog_11_method_16_code_r3 := wt_cs_tl (m := 28) wb10m0_prog_11_method_16_code_c2 rfl rfl
theorem wp_wk_dearestOf_d0 : decode prog_11_method_16_code 0 = .ok (.iconst (-1), 1) := wt_op2 wb10m0_prog_11_method_16_code_c0 0 rfl rfl
theorem wp_wk_dearestOf_d1 : decode prog_11_method_16_code 1 = .ok (.istore_n 3, 1) := wt_op62 wb10m0_prog_11_method_16_code_c0 1 rfl rfl
theorem wp_wk_dearestOf_d2 : decode prog_11_method_16_code 2 = .ok (.iconst 0, 1) := wt_op3 wb10m0_prog_11_method_16_code_c0 2 rfl rfl
theorem wp_wk_dearestOf_d3 : decode prog_11_method_16_code 3 = .ok (.istore 4, 2) := wt_op54 wb10m0_prog_11_method_16_code_c0 3 rfl rfl
theorem wp_wk_dearestOf_d5 : decode prog_11_method_16_code 5 = .ok (.iload 4, 2) := wt_op21 wb10m0_prog_11_method_16_code_c0 5 rfl rfl
theorem wp_wk_dearestOf_d7 : decode prog_11_method_16_code 7 = .ok (.aload_n 0, 1) := wt_op42 wb10m0_prog_11_method_16_code_c0 7 rfl rfl
theorem wp_wk_dearestOf_d8 : decode prog_11_method_16_code 8 = .ok (.getfield 19, 3) := wt_op180 wb10m0_prog_11_method_16_code_c0 8 rfl rfl rfl
theorem wp_wk_dearestOf_d11 : decode prog_11_method_16_code 11 = .ok (.getfield 67, 3) := wt_op180 wb10m0_prog_11_method_16_code_c0 11 rfl rfl rfl
theorem wp_wk_dearestOf_d14 : decode prog_11_method_16_code 14 = .ok (.if_icmp .ge 70, 3) := wt_op162 wb10m0_prog_11_method_16_code_c0 14 rfl rfl rfl
theorem wp_wk_dearestOf_d17 : decode prog_11_method_16_code 17 = .ok (.iload_n 2, 1) := wt_op28 wb10m0_prog_11_method_16_code_c0 17 rfl rfl
theorem wp_wk_dearestOf_d18 : decode prog_11_method_16_code 18 = .ok (.iload 4, 2) := wt_op21 wb10m0_prog_11_method_16_code_c0 18 rfl rfl
theorem wp_wk_dearestOf_d20 : decode prog_11_method_16_code 20 = .ok (.ishr, 1) := wt_op122 wb10m0_prog_11_method_16_code_c0 20 rfl rfl
theorem wp_wk_dearestOf_d21 : decode prog_11_method_16_code 21 = .ok (.iconst 1, 1) := wt_op4 wb10m0_prog_11_method_16_code_c0 21 rfl rfl
theorem wp_wk_dearestOf_d22 : decode prog_11_method_16_code 22 = .ok (.iand, 1) := wt_op126 wb10m0_prog_11_method_16_code_c0 22 rfl rfl
theorem wp_wk_dearestOf_d23 : decode prog_11_method_16_code 23 = .ok (.ifCond .eq 6, 3) := wt_op153 wb10m0_prog_11_method_16_code_c0 23 rfl rfl rfl
theorem wp_wk_dearestOf_d26 : decode prog_11_method_16_code 26 = .ok (.goto 52, 3) := wt_op167 wb10m0_prog_11_method_16_code_c0 26 rfl rfl rfl
theorem wp_wk_dearestOf_d29 : decode prog_11_method_16_code 29 = .ok (.iload_n 3, 1) := wt_op29 wb10m0_prog_11_method_16_code_c1 0 rfl rfl
theorem wp_wk_dearestOf_d30 : decode prog_11_method_16_code 30 = .ok (.iconst (-1), 1) := wt_op2 wb10m0_prog_11_method_16_code_c1 1 rfl rfl
theorem wp_wk_dearestOf_d31 : decode prog_11_method_16_code 31 = .ok (.if_icmp .eq 44, 3) := wt_op159 wb10m0_prog_11_method_16_code_c1 2 rfl rfl rfl
theorem wp_wk_dearestOf_d34 : decode prog_11_method_16_code 34 = .ok (.aload_n 0, 1) := wt_op42 wb10m0_prog_11_method_16_code_c1 5 rfl rfl
theorem wp_wk_dearestOf_d35 : decode prog_11_method_16_code 35 = .ok (.getfield 19, 3) := wt_op180 wb10m0_prog_11_method_16_code_c1 6 rfl rfl rfl
theorem wp_wk_dearestOf_d38 : decode prog_11_method_16_code 38 = .ok (.getfield 121, 3) := wt_op180 wb10m0_prog_11_method_16_code_c1 9 rfl rfl rfl
theorem wp_wk_dearestOf_d41 : decode prog_11_method_16_code 41 = .ok (.iload 4, 2) := wt_op21 wb10m0_prog_11_method_16_code_c1 12 rfl rfl
theorem wp_wk_dearestOf_d43 : decode prog_11_method_16_code 43 = .ok (.invokestatic 70, 3) := wt_op184 wb10m0_prog_11_method_16_code_c1 14 rfl rfl rfl
theorem wp_wk_dearestOf_d46 : decode prog_11_method_16_code 46 = .ok (.aload_n 0, 1) := wt_op42 wb10m0_prog_11_method_16_code_c1 17 rfl rfl
theorem wp_wk_dearestOf_d47 : decode prog_11_method_16_code 47 = .ok (.iload_n 3, 1) := wt_op29 wb10m0_prog_11_method_16_code_c1 18 rfl rfl
theorem wp_wk_dearestOf_d48 : decode prog_11_method_16_code 48 = .ok (.iload_n 1, 1) := wt_op27 wb10m0_prog_11_method_16_code_c1 19 rfl rfl
theorem wp_wk_dearestOf_d49 : decode prog_11_method_16_code 49 = .ok (.invokevirtual 151, 3) := wt_op182 wb10m0_prog_11_method_16_code_c1 20 rfl rfl rfl
theorem wp_wk_dearestOf_d52 : decode prog_11_method_16_code 52 = .ok (.imul, 1) := wt_op104 wb10m0_prog_11_method_16_code_c1 23 rfl rfl
theorem wp_wk_dearestOf_d53 : decode prog_11_method_16_code 53 = .ok (.aload_n 0, 1) := wt_op42 wb10m0_prog_11_method_16_code_c1 24 rfl rfl
theorem wp_wk_dearestOf_d54 : decode prog_11_method_16_code 54 = .ok (.getfield 19, 3) := wt_op180 wb10m0_prog_11_method_16_code_c1 25 rfl rfl rfl
theorem wp_wk_dearestOf_d57 : decode prog_11_method_16_code 57 = .ok (.getfield 121, 3) := wt_op180 wb10m0_prog_11_method_16_code_c2 0 rfl rfl rfl
theorem wp_wk_dearestOf_d60 : decode prog_11_method_16_code 60 = .ok (.iload_n 3, 1) := wt_op29 wb10m0_prog_11_method_16_code_c2 3 rfl rfl
theorem wp_wk_dearestOf_d61 : decode prog_11_method_16_code 61 = .ok (.invokestatic 70, 3) := wt_op184 wb10m0_prog_11_method_16_code_c2 4 rfl rfl rfl
theorem wp_wk_dearestOf_d64 : decode prog_11_method_16_code 64 = .ok (.aload_n 0, 1) := wt_op42 wb10m0_prog_11_method_16_code_c2 7 rfl rfl
theorem wp_wk_dearestOf_d65 : decode prog_11_method_16_code 65 = .ok (.iload 4, 2) := wt_op21 wb10m0_prog_11_method_16_code_c2 8 rfl rfl
theorem wp_wk_dearestOf_d67 : decode prog_11_method_16_code 67 = .ok (.iload_n 1, 1) := wt_op27 wb10m0_prog_11_method_16_code_c2 10 rfl rfl
theorem wp_wk_dearestOf_d68 : decode prog_11_method_16_code 68 = .ok (.invokevirtual 151, 3) := wt_op182 wb10m0_prog_11_method_16_code_c2 11 rfl rfl rfl
theorem wp_wk_dearestOf_d71 : decode prog_11_method_16_code 71 = .ok (.imul, 1) := wt_op104 wb10m0_prog_11_method_16_code_c2 14 rfl rfl
theorem wp_wk_dearestOf_d72 : decode prog_11_method_16_code 72 = .ok (.if_icmp .le 6, 3) := wt_op164 wb10m0_prog_11_method_16_code_c2 15 rfl rfl rfl
theorem wp_wk_dearestOf_d75 : decode prog_11_method_16_code 75 = .ok (.iload 4, 2) := wt_op21 wb10m0_prog_11_method_16_code_c2 18 rfl rfl
theorem wp_wk_dearestOf_d77 : decode prog_11_method_16_code 77 = .ok (.istore_n 3, 1) := wt_op62 wb10m0_prog_11_method_16_code_c2 20 rfl rfl
theorem wp_wk_dearestOf_d78 : decode prog_11_method_16_code 78 = .ok (.iinc 4 1, 3) := wt_op132 wb10m0_prog_11_method_16_code_c2 21 rfl rfl rfl
theorem wp_wk_dearestOf_d81 : decode prog_11_method_16_code 81 = .ok (.goto (-76), 3) := wt_op167 wb10m0_prog_11_method_16_code_c2 24 rfl rfl rfl
theorem wp_wk_dearestOf_d84 : decode prog_11_method_16_code 84 = .ok (.iload_n 3, 1) := wt_op29 wb10m0_prog_11_method_16_code_c2 27 rfl rfl
theorem wp_wk_dearestOf_d85 : decode prog_11_method_16_code 85 = .ok (.ireturn, 1) := wt_op172 wb10m0_prog_11_method_16_code_c3 0 rfl rfl
noncomputable def wp_wk_dearestOf_B78 (n : Nat) (x1 : Int32) (x2 : Int32) (x3 : Int32) (x4 : Int32) (K5 : Int32 × Int32 × wt_St → Option (Int32 × wt_St)) (σ : wt_St) : Option (Int32 × wt_St) :=
  K5 (x3, (x4 + (1 : Int32)), σ)
set_option maxRecDepth 100000 in
set_option maxHeartbeats 4000000 in
theorem wp_wk_dearestOf_B78_ok  {x1 : Int32} {x2 : Int32} {x3 : Int32} {x4 : Int32} {X : wt_X} {n : Nat} {res : Int32 × wt_St} (hE : wt_Ok X prog_11_method_16_code 5 "WornType$Weeks" 3 0) (hR : wt_Rt X (some .int) (some res.1) res.2) (hD : ∀ i, i < 108 → wt_dom (wt_xw X) i)  {K5 : Int32 × Int32 × wt_St → Option (Int32 × wt_St)} (hK5 : ∀ s : Int32 × Int32 × wt_St, K5 s = some res → wt_V X 0 s.2.2 5 [some (.ref (wt_ad (wt_xw X) 86)), some (.int x1), some (.int x2), some (.int s.1), some (.int s.2.1)] []) {σ : wt_St} (h : wp_wk_dearestOf_B78 n x1 x2 x3 x4 K5 σ = some res) : wt_V X 0 σ 78 [some (.ref (wt_ad (wt_xw X) 86)), some (.int x1), some (.int x2), some (.int x3), some (.int x4)] [] := by
  unfold wp_wk_dearestOf_B78 at h
  refine wt_iinc hE (x4 + (1 : Int32)) [some (.ref (wt_ad (wt_xw X) 86)), some (.int x1), some (.int x2), some (.int x3), some (.int (x4 + (1 : Int32)))] wp_wk_dearestOf_d78 (by decide) rfl rfl rfl ?_
  refine wt_goto hE 5 wp_wk_dearestOf_d81 rfl ?_
  exact hK5 (x3, (x4 + (1 : Int32)), σ) h
noncomputable def wp_wk_dearestOf_B75 (n : Nat) (x1 : Int32) (x2 : Int32) (x4 : Int32) (K5 : Int32 × Int32 × wt_St → Option (Int32 × wt_St)) (σ : wt_St) : Option (Int32 × wt_St) :=
  wp_wk_dearestOf_B78 n x1 x2 x4 x4 K5 σ
set_option maxRecDepth 100000 in
set_option maxHeartbeats 4000000 in
theorem wp_wk_dearestOf_B75_ok  {x1 : Int32} {x2 : Int32} {x4 : Int32} {X : wt_X} {n : Nat} {res : Int32 × wt_St} (hE : wt_Ok X prog_11_method_16_code 5 "WornType$Weeks" 3 0) (hR : wt_Rt X (some .int) (some res.1) res.2) (hD : ∀ i, i < 108 → wt_dom (wt_xw X) i)  {K5 : Int32 × Int32 × wt_St → Option (Int32 × wt_St)} (hK5 : ∀ s : Int32 × Int32 × wt_St, K5 s = some res → wt_V X 0 s.2.2 5 [some (.ref (wt_ad (wt_xw X) 86)), some (.int x1), some (.int x2), some (.int s.1), some (.int s.2.1)] []) {σ : wt_St} (h : wp_wk_dearestOf_B75 n x1 x2 x4 K5 σ = some res) : wt_V X 0 σ 75 [some (.ref (wt_ad (wt_xw X) 86)), some (.int x1), some (.int x2), none, some (.int x4)] [] := by
  unfold wp_wk_dearestOf_B75 at h
  refine wt_iload hE wp_wk_dearestOf_d75 rfl ?_
  refine wt_istore_n hE [some (.ref (wt_ad (wt_xw X) 86)), some (.int x1), some (.int x2), some (.int x4), some (.int x4)] wp_wk_dearestOf_d77 (by decide) rfl ?_
  exact wp_wk_dearestOf_B78_ok hE hR hD hK5 h
noncomputable def wp_wk_dearestOf_B5 (n : Nat) (x1 : Int32) (x2 : Int32) (K5 : Int32 × Int32 × wt_St → Option (Int32 × wt_St)) (s : Int32 × Int32 × wt_St) : Option (Int32 × wt_St) :=
  if (wt_gf s.2.2 39 8) ≤ s.2.1 then
    some (s.1, s.2.2)
  else
    if ((x2 >>> (s.2.1 &&& 31)) &&& (1 : Int32)) = 0 then
      if s.1 = (-1 : Int32) then
        wp_wk_dearestOf_B75 n x1 x2 s.2.1 K5 s.2.2
      else
        (wp_ap_look n 47 s.2.1 s.2.2).bind fun q4 =>
        (wp_wk_printsOf n s.1 x1 q4.2).bind fun q5 =>
        (wp_ap_look n 47 s.1 q5.2).bind fun q6 =>
        (wp_wk_printsOf n s.2.1 x1 q6.2).bind fun q7 =>
        if (q4.1 * q5.1) ≤ (q6.1 * q7.1) then
          wp_wk_dearestOf_B78 n x1 x2 s.1 s.2.1 K5 q7.2
        else
          wp_wk_dearestOf_B75 n x1 x2 s.2.1 K5 q7.2
    else
      wp_wk_dearestOf_B78 n x1 x2 s.1 s.2.1 K5 s.2.2
set_option maxRecDepth 100000 in
set_option maxHeartbeats 4000000 in
theorem wp_wk_dearestOf_B5_ok  {x1 : Int32} {x2 : Int32} {X : wt_X} {n : Nat} {res : Int32 × wt_St} (hE : wt_Ok X prog_11_method_16_code 5 "WornType$Weeks" 3 0) (hR : wt_Rt X (some .int) (some res.1) res.2) (hD : ∀ i, i < 108 → wt_dom (wt_xw X) i)  {K5 : Int32 × Int32 × wt_St → Option (Int32 × wt_St)} (hK5 : ∀ s : Int32 × Int32 × wt_St, K5 s = some res → wt_V X 0 s.2.2 5 [some (.ref (wt_ad (wt_xw X) 86)), some (.int x1), some (.int x2), some (.int s.1), some (.int s.2.1)] []) {s : Int32 × Int32 × wt_St} (h : wp_wk_dearestOf_B5 n x1 x2 K5 s = some res) : wt_V X 0 s.2.2 5 [some (.ref (wt_ad (wt_xw X) 86)), some (.int x1), some (.int x2), some (.int s.1), some (.int s.2.1)] [] := by
  unfold wp_wk_dearestOf_B5 at h
  refine wt_iload hE wp_wk_dearestOf_d5 rfl ?_
  refine wt_aload_n hE wp_wk_dearestOf_d7 rfl ?_
  refine wt_getr hE (r := 39) wt_lf_wk_19 (hD 86 (Nat.le_of_ble_eq_true rfl)) wt_L86 rfl wp_wk_dearestOf_d8 ?_
  refine wt_geti hE wt_lf_wk_67 (hD 39 (Nat.le_of_ble_eq_true rfl)) wt_L39 rfl wp_wk_dearestOf_d11 ?_
  refine wt_icmp_ge hE 84 wp_wk_dearestOf_d14 rfl (fun c1 => ?_) (fun c1 => ?_)
  · have h := wt_ip c1 h
    refine wt_iload_n hE wp_wk_dearestOf_d84 rfl ?_
    cases h
    exact wt_iret hE hR wp_wk_dearestOf_d85
  · have h := wt_in c1 h
    refine wt_iload_n hE wp_wk_dearestOf_d17 rfl ?_
    refine wt_iload hE wp_wk_dearestOf_d18 rfl ?_
    refine wt_ishr hE wp_wk_dearestOf_d20 ?_
    refine wt_iconst hE (1 : Int32) wp_wk_dearestOf_d21 wt_ci_1 ?_
    refine wt_iand hE wp_wk_dearestOf_d22 ?_
    refine wt_if_eq hE 29 wp_wk_dearestOf_d23 rfl (fun c2 => ?_) (fun c2 => ?_)
    · have h := wt_ip c2 h
      refine wt_iload_n hE wp_wk_dearestOf_d29 rfl ?_
      refine wt_iconst hE (-1 : Int32) wp_wk_dearestOf_d30 wt_ci_m1 ?_
      refine wt_icmp_eq hE 75 wp_wk_dearestOf_d31 rfl (fun c3 => ?_) (fun c3 => ?_)
      · have h := wt_ip c3 h
        refine wt_wk [true, true, true, false, true] rfl ?_
        exact wp_wk_dearestOf_B75_ok hE hR hD hK5 h
      · have h := wt_in c3 h
        refine wt_aload_n hE wp_wk_dearestOf_d34 rfl ?_
        refine wt_getr hE (r := 39) wt_lf_wk_19 (hD 86 (Nat.le_of_ble_eq_true rfl)) wt_L86 rfl wp_wk_dearestOf_d35 ?_
        refine wt_getr hE (r := 47) wt_lf_wk_121 (hD 39 (Nat.le_of_ble_eq_true rfl)) wt_L39 rfl wp_wk_dearestOf_d38 ?_
        refine wt_iload hE wp_wk_dearestOf_d41 rfl ?_
        obtain ⟨q4, hq4, h⟩ := wt_bi h
        refine wt_callSi hE [.ref (wt_ad (wt_xw X) 47), .int s.2.1] wt_lm_wk_70 wt_ya_ap_look (wp_ap_look_ok (wt_lnE wt_L47) (hD 47 (Nat.le_of_ble_eq_true rfl)) hq4) (by omega) rfl rfl (Nat.le_of_ble_eq_true rfl) (Nat.zero_le _) wp_wk_dearestOf_d43 (fun hbq4 => ?_)
        refine wt_aload_n hE wp_wk_dearestOf_d46 rfl ?_
        refine wt_iload_n hE wp_wk_dearestOf_d47 rfl ?_
        refine wt_iload_n hE wp_wk_dearestOf_d48 rfl ?_
        obtain ⟨q5, hq5, h⟩ := wt_bi h
        refine wt_callVi hE [.int s.1, .int x1] wt_lm_wk_151 wt_ya_wk_printsOf (wp_wk_printsOf_ok hD hq5) (by omega) (hD 86 (Nat.le_of_ble_eq_true rfl)) wt_L86 rfl rfl rfl (Nat.le_of_ble_eq_true rfl) (Nat.zero_le _) wp_wk_dearestOf_d49 (fun hbq5 => ?_)
        refine wt_imul hE wp_wk_dearestOf_d52 ?_
        refine wt_aload_n hE wp_wk_dearestOf_d53 rfl ?_
        refine wt_getr hE (r := 39) wt_lf_wk_19 (hD 86 (Nat.le_of_ble_eq_true rfl)) wt_L86 rfl wp_wk_dearestOf_d54 ?_
        refine wt_getr hE (r := 47) wt_lf_wk_121 (hD 39 (Nat.le_of_ble_eq_true rfl)) wt_L39 rfl wp_wk_dearestOf_d57 ?_
        refine wt_iload_n hE wp_wk_dearestOf_d60 rfl ?_
        obtain ⟨q6, hq6, h⟩ := wt_bi h
        refine wt_callSi hE [.ref (wt_ad (wt_xw X) 47), .int s.1] wt_lm_wk_70 wt_ya_ap_look (wp_ap_look_ok (wt_lnE wt_L47) (hD 47 (Nat.le_of_ble_eq_true rfl)) hq6) (by omega) rfl rfl (Nat.le_of_ble_eq_true rfl) (Nat.zero_le _) wp_wk_dearestOf_d61 (fun hbq6 => ?_)
        refine wt_aload_n hE wp_wk_dearestOf_d64 rfl ?_
        refine wt_iload hE wp_wk_dearestOf_d65 rfl ?_
        refine wt_iload_n hE wp_wk_dearestOf_d67 rfl ?_
        obtain ⟨q7, hq7, h⟩ := wt_bi h
        refine wt_callVi hE [.int s.2.1, .int x1] wt_lm_wk_151 wt_ya_wk_printsOf (wp_wk_printsOf_ok hD hq7) (by omega) (hD 86 (Nat.le_of_ble_eq_true rfl)) wt_L86 rfl rfl rfl (Nat.le_of_ble_eq_true rfl) (Nat.zero_le _) wp_wk_dearestOf_d68 (fun hbq7 => ?_)
        refine wt_imul hE wp_wk_dearestOf_d71 ?_
        refine wt_icmp_le hE 78 wp_wk_dearestOf_d72 rfl (fun c8 => ?_) (fun c8 => ?_)
        · have h := wt_ip c8 h
          exact wp_wk_dearestOf_B78_ok hE hR hD hK5 h
        · have h := wt_in c8 h
          refine wt_wk [true, true, true, false, true] rfl ?_
          exact wp_wk_dearestOf_B75_ok hE hR hD hK5 h
    · have h := wt_in c2 h
      refine wt_goto hE 78 wp_wk_dearestOf_d26 rfl ?_
      exact wp_wk_dearestOf_B78_ok hE hR hD hK5 h
noncomputable def wp_wk_dearestOf (n : Nat) (x1 : Int32) (x2 : Int32) (σ : wt_St) : Option (Int32 × wt_St) :=
  wt_it (wp_wk_dearestOf_B5 n x1 x2) n ((-1 : Int32), (0 : Int32), σ)
set_option maxRecDepth 100000 in
set_option maxHeartbeats 4000000 in
theorem wp_wk_dearestOf_ok {l : Launch} {w : wt_E} {n : Nat} {x1 : Int32} {x2 : Int32} (hD : ∀ i, i < 108 → wt_dom w i) {σ : wt_St} {q : Int32 × wt_St} (h : wp_wk_dearestOf n x1 x2 σ = some q) : wt_Ctr l w wt_y_wk_dearestOf prog_11_method_16_code 5 (some .int) 3 [.ref (wt_ad w 86), .int x1, .int x2] σ (some q.1) q.2 := by
  refine wt_ctr wt_pl_wk_dearestOf rfl (Nat.le_of_ble_eq_true rfl) [some (.ref (wt_ad w 86)), some (.int x1), some (.int x2), none, none] rfl ?_
  intro X hXl hXw hE hR
  subst hXl
  subst hXw
  have hE : wt_Ok X prog_11_method_16_code 5 "WornType$Weeks" 3 0 := hE
  unfold wp_wk_dearestOf at h
  refine wt_iconst hE (-1 : Int32) wp_wk_dearestOf_d0 wt_ci_m1 ?_
  refine wt_istore_n hE [some (.ref (wt_ad (wt_xw X) 86)), some (.int x1), some (.int x2), some (.int (-1 : Int32)), none] wp_wk_dearestOf_d1 (by decide) rfl ?_
  refine wt_iconst hE (0 : Int32) wp_wk_dearestOf_d2 wt_ci_0 ?_
  refine wt_istore hE [some (.ref (wt_ad (wt_xw X) 86)), some (.int x1), some (.int x2), some (.int (-1 : Int32)), some (.int (0 : Int32))] wp_wk_dearestOf_d3 (Nat.le_of_ble_eq_true rfl) rfl ?_
  exact wt_it_ind (fun z => wt_V X 0 z.2.2 5 [some (.ref (wt_ad (wt_xw X) 86)), some (.int x1), some (.int x2), some (.int z.1), some (.int z.2.1)] []) (fun K hK z h => wp_wk_dearestOf_B5_ok hE hR hD hK h) n ((-1 : Int32), (0 : Int32), σ) h
def wb10m0_prog_11_method_14_code_r4 : List (List Nat) := [29, 172] :: []
def wb10m0_prog_11_method_14_code_r3 : List (List Nat) := [158, 0, 13, 29, 21, 8, 28, 104, 21, 7, 108, 96, 172, 29, 21, 8, 96, 62, 28, 21, 7, 100, 61, 132, 5, 1, 167, 255, 161] :: wb10m0_prog_11_method_14_code_r4
def wb10m0_prog_11_method_14_code_r2 : List (List Nat) := [27, 182, 0, 151, 54, 7, 42, 180, 0, 19, 180, 0, 121, 21, 6, 184, 0, 70, 54, 8, 21, 7, 28, 164, 0, 18, 21, 7] :: wb10m0_prog_11_method_14_code_r3
def wb10m0_prog_11_method_14_code_r1 : List (List Nat) := [42, 27, 21, 4, 182, 0, 148, 54, 6, 21, 6, 2, 160, 0, 5, 29, 172, 21, 4, 4, 21, 6, 120, 128, 54, 4, 42, 21, 6] :: wb10m0_prog_11_method_14_code_r2
def wb10m0_prog_11_method_14_code_r0 : List (List Nat) := [42, 180, 0, 23, 27, 182, 0, 145, 61, 3, 62, 3, 54, 4, 3, 54, 5, 21, 5, 42, 180, 0, 19, 180, 0, 67, 162, 0, 89] :: wb10m0_prog_11_method_14_code_r1
set_option maxRecDepth 100000 in
theorem wb10m0_prog_11_method_14_code_c0 : wt_cs prog_11_method_14_code 0 wb10m0_prog_11_method_14_code_r0 := wt_cs_of (by decide +kernel)
theorem wb10m0_prog_11_method_14_code_c1 : wt_cs prog_11_method_14_code 29 wb10m0_prog_11_method_14_code_r1 := wt_cs_tl (m := 29) wb10m0_prog_11_method_14_code_c0 rfl rfl
theorem wb10m0_prog_11_method_14_code_c2 : wt_cs prog_11_method_14_code 58 wb10m0_prog_11_method_14_code_r2 := wt_cs_tl (m := 29) wb10m0_prog_11_method_14_code_c1 rfl rfl
theorem wb10m0_prog_11_method_14_code_c3 : wt_cs prog_11_method_14_code 86 wb10m0_prog_11_method_14_code_r3 := wt_cs_tl (m := 28) wb10m0_prog_11_method_14_code_c2 rfl rfl
theorem wb10m0_prog_11_method_14_code_c4 : wt_cs prog_11_method_14_code 115 wb10m0_prog_11_method_14_code_r4 := wt_cs_tl (m := 29) wb10m0_prog_11_method_14_code_c3 rfl rfl
theorem wp_wk_boundBy_d0 : decode prog_11_method_14_code 0 = .ok (.aload_n 0, 1) := wt_op42 wb10m0_prog_11_method_14_code_c0 0 rfl rfl
theorem wp_wk_boundBy_d1 : decode prog_11_method_14_code 1 = .ok (.getfield 23, 3) := wt_op180 wb10m0_prog_11_method_14_code_c0 1 rfl rfl rfl
theorem wp_wk_boundBy_d4 : decode prog_11_method_14_code 4 = .ok (.iload_n 1, 1) := wt_op27 wb10m0_prog_11_method_14_code_c0 4 rfl rfl
theorem wp_wk_boundBy_d5 : decode prog_11_method_14_code 5 = .ok (.invokevirtual 145, 3) := wt_op182 wb10m0_prog_11_method_14_code_c0 5 rfl rfl rfl
theorem wp_wk_boundBy_d8 : decode prog_11_method_14_code 8 = .ok (.istore_n 2, 1) := wt_op61 wb10m0_prog_11_method_14_code_c0 8 rfl rfl
theorem wp_wk_boundBy_d9 : decode prog_11_method_14_code 9 = .ok (.iconst 0, 1) := wt_op3 wb10m0_prog_11_method_14_code_c0 9 rfl rfl
theorem wp_wk_boundBy_d10 : decode prog_11_method_14_code 10 = .ok (.istore_n 3, 1) := wt_op62 wb10m0_prog_11_method_14_code_c0 10 rfl rfl
theorem wp_wk_boundBy_d11 : decode prog_11_method_14_code 11 = .ok (.iconst 0, 1) := wt_op3 wb10m0_prog_11_method_14_code_c0 11 rfl rfl
theorem wp_wk_boundBy_d12 : decode prog_11_method_14_code 12 = .ok (.istore 4, 2) := wt_op54 wb10m0_prog_11_method_14_code_c0 12 rfl rfl
theorem wp_wk_boundBy_d14 : decode prog_11_method_14_code 14 = .ok (.iconst 0, 1) := wt_op3 wb10m0_prog_11_method_14_code_c0 14 rfl rfl
theorem wp_wk_boundBy_d15 : decode prog_11_method_14_code 15 = .ok (.istore 5, 2) := wt_op54 wb10m0_prog_11_method_14_code_c0 15 rfl rfl
theorem wp_wk_boundBy_d17 : decode prog_11_method_14_code 17 = .ok (.iload 5, 2) := wt_op21 wb10m0_prog_11_method_14_code_c0 17 rfl rfl
theorem wp_wk_boundBy_d19 : decode prog_11_method_14_code 19 = .ok (.aload_n 0, 1) := wt_op42 wb10m0_prog_11_method_14_code_c0 19 rfl rfl
theorem wp_wk_boundBy_d20 : decode prog_11_method_14_code 20 = .ok (.getfield 19, 3) := wt_op180 wb10m0_prog_11_method_14_code_c0 20 rfl rfl rfl
theorem wp_wk_boundBy_d23 : decode prog_11_method_14_code 23 = .ok (.getfield 67, 3) := wt_op180 wb10m0_prog_11_method_14_code_c0 23 rfl rfl rfl
theorem wp_wk_boundBy_d26 : decode prog_11_method_14_code 26 = .ok (.if_icmp .ge 89, 3) := wt_op162 wb10m0_prog_11_method_14_code_c0 26 rfl rfl rfl
theorem wp_wk_boundBy_d29 : decode prog_11_method_14_code 29 = .ok (.aload_n 0, 1) := wt_op42 wb10m0_prog_11_method_14_code_c1 0 rfl rfl
theorem wp_wk_boundBy_d30 : decode prog_11_method_14_code 30 = .ok (.iload_n 1, 1) := wt_op27 wb10m0_prog_11_method_14_code_c1 1 rfl rfl
theorem wp_wk_boundBy_d31 : decode prog_11_method_14_code 31 = .ok (.iload 4, 2) := wt_op21 wb10m0_prog_11_method_14_code_c1 2 rfl rfl
theorem wp_wk_boundBy_d33 : decode prog_11_method_14_code 33 = .ok (.invokevirtual 148, 3) := wt_op182 wb10m0_prog_11_method_14_code_c1 4 rfl rfl rfl
theorem wp_wk_boundBy_d36 : decode prog_11_method_14_code 36 = .ok (.istore 6, 2) := wt_op54 wb10m0_prog_11_method_14_code_c1 7 rfl rfl
theorem wp_wk_boundBy_d38 : decode prog_11_method_14_code 38 = .ok (.iload 6, 2) := wt_op21 wb10m0_prog_11_method_14_code_c1 9 rfl rfl
theorem wp_wk_boundBy_d40 : decode prog_11_method_14_code 40 = .ok (.iconst (-1), 1) := wt_op2 wb10m0_prog_11_method_14_code_c1 11 rfl rfl
theorem wp_wk_boundBy_d41 : decode prog_11_method_14_code 41 = .ok (.if_icmp .ne 5, 3) := wt_op160 wb10m0_prog_11_method_14_code_c1 12 rfl rfl rfl
theorem wp_wk_boundBy_d44 : decode prog_11_method_14_code 44 = .ok (.iload_n 3, 1) := wt_op29 wb10m0_prog_11_method_14_code_c1 15 rfl rfl
theorem wp_wk_boundBy_d45 : decode prog_11_method_14_code 45 = .ok (.ireturn, 1) := wt_op172 wb10m0_prog_11_method_14_code_c1 16 rfl rfl
theorem wp_wk_boundBy_d46 : decode prog_11_method_14_code 46 = .ok (.iload 4, 2) := wt_op21 wb10m0_prog_11_method_14_code_c1 17 rfl rfl
theorem wp_wk_boundBy_d48 : decode prog_11_method_14_code 48 = .ok (.iconst 1, 1) := wt_op4 wb10m0_prog_11_method_14_code_c1 19 rfl rfl
theorem wp_wk_boundBy_d49 : decode prog_11_method_14_code 49 = .ok (.iload 6, 2) := wt_op21 wb10m0_prog_11_method_14_code_c1 20 rfl rfl
theorem wp_wk_boundBy_d51 : decode prog_11_method_14_code 51 = .ok (.ishl, 1) := wt_op120 wb10m0_prog_11_method_14_code_c1 22 rfl rfl
theorem wp_wk_boundBy_d52 : decode prog_11_method_14_code 52 = .ok (.ior, 1) := wt_op128 wb10m0_prog_11_method_14_code_c1 23 rfl rfl
theorem wp_wk_boundBy_d53 : decode prog_11_method_14_code 53 = .ok (.istore 4, 2) := wt_op54 wb10m0_prog_11_method_14_code_c1 24 rfl rfl
theorem wp_wk_boundBy_d55 : decode prog_11_method_14_code 55 = .ok (.aload_n 0, 1) := wt_op42 wb10m0_prog_11_method_14_code_c1 26 rfl rfl
theorem wp_wk_boundBy_d56 : decode prog_11_method_14_code 56 = .ok (.iload 6, 2) := wt_op21 wb10m0_prog_11_method_14_code_c1 27 rfl rfl
theorem wp_wk_boundBy_d58 : decode prog_11_method_14_code 58 = .ok (.iload_n 1, 1) := wt_op27 wb10m0_prog_11_method_14_code_c2 0 rfl rfl
theorem wp_wk_boundBy_d59 : decode prog_11_method_14_code 59 = .ok (.invokevirtual 151, 3) := wt_op182 wb10m0_prog_11_method_14_code_c2 1 rfl rfl rfl
theorem wp_wk_boundBy_d62 : decode prog_11_method_14_code 62 = .ok (.istore 7, 2) := wt_op54 wb10m0_prog_11_method_14_code_c2 4 rfl rfl
theorem wp_wk_boundBy_d64 : decode prog_11_method_14_code 64 = .ok (.aload_n 0, 1) := wt_op42 wb10m0_prog_11_method_14_code_c2 6 rfl rfl
theorem wp_wk_boundBy_d65 : decode prog_11_method_14_code 65 = .ok (.getfield 19, 3) := wt_op180 wb10m0_prog_11_method_14_code_c2 7 rfl rfl rfl
theorem wp_wk_boundBy_d68 : decode prog_11_method_14_code 68 = .ok (.getfield 121, 3) := wt_op180 wb10m0_prog_11_method_14_code_c2 10 rfl rfl rfl
theorem wp_wk_boundBy_d71 : decode prog_11_method_14_code 71 = .ok (.iload 6, 2) := wt_op21 wb10m0_prog_11_method_14_code_c2 13 rfl rfl
theorem wp_wk_boundBy_d73 : decode prog_11_method_14_code 73 = .ok (.invokestatic 70, 3) := wt_op184 wb10m0_prog_11_method_14_code_c2 15 rfl rfl rfl
theorem wp_wk_boundBy_d76 : decode prog_11_method_14_code 76 = .ok (.istore 8, 2) := wt_op54 wb10m0_prog_11_method_14_code_c2 18 rfl rfl
theorem wp_wk_boundBy_d78 : decode prog_11_method_14_code 78 = .ok (.iload 7, 2) := wt_op21 wb10m0_prog_11_method_14_code_c2 20 rfl rfl
theorem wp_wk_boundBy_d80 : decode prog_11_method_14_code 80 = .ok (.iload_n 2, 1) := wt_op28 wb10m0_prog_11_method_14_code_c2 22 rfl rfl
theorem wp_wk_boundBy_d81 : decode prog_11_method_14_code 81 = .ok (.if_icmp .le 18, 3) := wt_op164 wb10m0_prog_11_method_14_code_c2 23 rfl rfl rfl
theorem wp_wk_boundBy_d84 : decode prog_11_method_14_code 84 = .ok (.iload 7, 2) := wt_op21 wb10m0_prog_11_method_14_code_c2 26 rfl rfl
theorem wp_wk_boundBy_d86 : decode prog_11_method_14_code 86 = .ok (.ifCond .le 13, 3) := wt_op158 wb10m0_prog_11_method_14_code_c3 0 rfl rfl rfl
theorem wp_wk_boundBy_d89 : decode prog_11_method_14_code 89 = .ok (.iload_n 3, 1) := wt_op29 wb10m0_prog_11_method_14_code_c3 3 rfl rfl
theorem wp_wk_boundBy_d90 : decode prog_11_method_14_code 90 = .ok (.iload 8, 2) := wt_op21 wb10m0_prog_11_method_14_code_c3 4 rfl rfl
theorem wp_wk_boundBy_d92 : decode prog_11_method_14_code 92 = .ok (.iload_n 2, 1) := wt_op28 wb10m0_prog_11_method_14_code_c3 6 rfl rfl
theorem wp_wk_boundBy_d93 : decode prog_11_method_14_code 93 = .ok (.imul, 1) := wt_op104 wb10m0_prog_11_method_14_code_c3 7 rfl rfl
theorem wp_wk_boundBy_d94 : decode prog_11_method_14_code 94 = .ok (.iload 7, 2) := wt_op21 wb10m0_prog_11_method_14_code_c3 8 rfl rfl
theorem wp_wk_boundBy_d96 : decode prog_11_method_14_code 96 = .ok (.idiv, 1) := wt_op108 wb10m0_prog_11_method_14_code_c3 10 rfl rfl
theorem wp_wk_boundBy_d97 : decode prog_11_method_14_code 97 = .ok (.iadd, 1) := wt_op96 wb10m0_prog_11_method_14_code_c3 11 rfl rfl
theorem wp_wk_boundBy_d98 : decode prog_11_method_14_code 98 = .ok (.ireturn, 1) := wt_op172 wb10m0_prog_11_method_14_code_c3 12 rfl rfl
theorem wp_wk_boundBy_d99 : decode prog_11_method_14_code 99 = .ok (.iload_n 3, 1) := wt_op29 wb10m0_prog_11_method_14_code_c3 13 rfl rfl
theorem wp_wk_boundBy_d100 : decode prog_11_method_14_code 100 = .ok (.iload 8, 2) := wt_op21 wb10m0_prog_11_method_14_code_c3 14 rfl rfl
theorem wp_wk_boundBy_d102 : decode prog_11_method_14_code 102 = .ok (.iadd, 1) := wt_op96 wb10m0_prog_11_method_14_code_c3 16 rfl rfl
theorem wp_wk_boundBy_d103 : decode prog_11_method_14_code 103 = .ok (.istore_n 3, 1) := wt_op62 wb10m0_prog_11_method_14_code_c3 17 rfl rfl
theorem wp_wk_boundBy_d104 : decode prog_11_method_14_code 104 = .ok (.iload_n 2, 1) := wt_op28 wb10m0_prog_11_method_14_code_c3 18 rfl rfl
theorem wp_wk_boundBy_d105 : decode prog_11_method_14_code 105 = .ok (.iload 7, 2) := wt_op21 wb10m0_prog_11_method_14_code_c3 19 rfl rfl
theorem wp_wk_boundBy_d107 : decode prog_11_method_14_code 107 = .ok (.isub, 1) := wt_op100 wb10m0_prog_11_method_14_code_c3 21 rfl rfl
theorem wp_wk_boundBy_d108 : decode prog_11_method_14_code 108 = .ok (.istore_n 2, 1) := wt_op61 wb10m0_prog_11_method_14_code_c3 22 rfl rfl
theorem wp_wk_boundBy_d109 : decode prog_11_method_14_code 109 = .ok (.iinc 5 1, 3) := wt_op132 wb10m0_prog_11_method_14_code_c3 23 rfl rfl rfl
theorem wp_wk_boundBy_d112 : decode prog_11_method_14_code 112 = .ok (.goto (-95), 3) := wt_op167 wb10m0_prog_11_method_14_code_c3 26 rfl rfl rfl
theorem wp_wk_boundBy_d115 : decode prog_11_method_14_code 115 = .ok (.iload_n 3, 1) := wt_op29 wb10m0_prog_11_method_14_code_c4 0 rfl rfl
theorem wp_wk_boundBy_d116 : decode prog_11_method_14_code 116 = .ok (.ireturn, 1) := wt_op172 wb10m0_prog_11_method_14_code_c4 1 rfl rfl
noncomputable def wp_wk_boundBy_B99 (n : Nat) (x1 : Int32) (x2 : Int32) (x3 : Int32) (x4 : Int32) (x5 : Int32) (x7 : Int32) (x8 : Int32) (K17 : Int32 × Int32 × Int32 × Int32 × wt_St → Option (Int32 × wt_St)) (σ : wt_St) : Option (Int32 × wt_St) :=
  K17 ((x2 - x7), (x3 + x8), x4, (x5 + (1 : Int32)), σ)
set_option maxRecDepth 100000 in
set_option maxHeartbeats 4000000 in
theorem wp_wk_boundBy_B99_ok  {x1 : Int32} {x2 : Int32} {x3 : Int32} {x4 : Int32} {x5 : Int32} {x7 : Int32} {x8 : Int32} {X : wt_X} {n : Nat} {res : Int32 × wt_St} (hE : wt_Ok X prog_11_method_14_code 9 "WornType$Weeks" 4 0) (hR : wt_Rt X (some .int) (some res.1) res.2) (hD : ∀ i, i < 108 → wt_dom (wt_xw X) i)  {K17 : Int32 × Int32 × Int32 × Int32 × wt_St → Option (Int32 × wt_St)} (hK17 : ∀ s : Int32 × Int32 × Int32 × Int32 × wt_St, K17 s = some res → wt_V X 0 s.2.2.2.2 17 [some (.ref (wt_ad (wt_xw X) 86)), some (.int x1), some (.int s.1), some (.int s.2.1), some (.int s.2.2.1), some (.int s.2.2.2.1), none, none, none] []) {σ : wt_St} (h : wp_wk_boundBy_B99 n x1 x2 x3 x4 x5 x7 x8 K17 σ = some res) : wt_V X 0 σ 99 [some (.ref (wt_ad (wt_xw X) 86)), some (.int x1), some (.int x2), some (.int x3), some (.int x4), some (.int x5), none, some (.int x7), some (.int x8)] [] := by
  unfold wp_wk_boundBy_B99 at h
  refine wt_iload_n hE wp_wk_boundBy_d99 rfl ?_
  refine wt_iload hE wp_wk_boundBy_d100 rfl ?_
  refine wt_iadd hE wp_wk_boundBy_d102 ?_
  refine wt_istore_n hE [some (.ref (wt_ad (wt_xw X) 86)), some (.int x1), some (.int x2), some (.int (x3 + x8)), some (.int x4), some (.int x5), none, some (.int x7), some (.int x8)] wp_wk_boundBy_d103 (by decide) rfl ?_
  refine wt_iload_n hE wp_wk_boundBy_d104 rfl ?_
  refine wt_iload hE wp_wk_boundBy_d105 rfl ?_
  refine wt_isub hE wp_wk_boundBy_d107 ?_
  refine wt_istore_n hE [some (.ref (wt_ad (wt_xw X) 86)), some (.int x1), some (.int (x2 - x7)), some (.int (x3 + x8)), some (.int x4), some (.int x5), none, some (.int x7), some (.int x8)] wp_wk_boundBy_d108 (by decide) rfl ?_
  refine wt_iinc hE (x5 + (1 : Int32)) [some (.ref (wt_ad (wt_xw X) 86)), some (.int x1), some (.int (x2 - x7)), some (.int (x3 + x8)), some (.int x4), some (.int (x5 + (1 : Int32))), none, some (.int x7), some (.int x8)] wp_wk_boundBy_d109 (by decide) rfl rfl rfl ?_
  refine wt_goto hE 17 wp_wk_boundBy_d112 rfl ?_
  refine wt_wk [true, true, true, true, true, true, true, false, false] rfl ?_
  exact hK17 ((x2 - x7), (x3 + x8), x4, (x5 + (1 : Int32)), σ) h
noncomputable def wp_wk_boundBy_B17 (n : Nat) (x1 : Int32) (K17 : Int32 × Int32 × Int32 × Int32 × wt_St → Option (Int32 × wt_St)) (s : Int32 × Int32 × Int32 × Int32 × wt_St) : Option (Int32 × wt_St) :=
  if (wt_gf s.2.2.2.2 39 8) ≤ s.2.2.2.1 then
    some (s.2.1, s.2.2.2.2)
  else
    (wp_wk_dearestOf n x1 s.2.2.1 s.2.2.2.2).bind fun q3 =>
    if q3.1 = (-1 : Int32) then
      some (s.2.1, q3.2)
    else
      (wp_wk_printsOf n q3.1 x1 q3.2).bind fun q5 =>
      (wp_ap_look n 47 q3.1 q5.2).bind fun q6 =>
      if q5.1 ≤ s.1 then
        wp_wk_boundBy_B99 n x1 s.1 s.2.1 (s.2.2.1 ||| ((1 : Int32) <<< (q3.1 &&& 31))) s.2.2.2.1 q5.1 q6.1 K17 q6.2
      else
        if q5.1 ≤ 0 then
          wp_wk_boundBy_B99 n x1 s.1 s.2.1 (s.2.2.1 ||| ((1 : Int32) <<< (q3.1 &&& 31))) s.2.2.2.1 q5.1 q6.1 K17 q6.2
        else
          if q5.1 = 0 then none else
          some ((s.2.1 + ((q6.1 * s.1) / q5.1)), q6.2)
set_option maxRecDepth 100000 in
set_option maxHeartbeats 4000000 in
theorem wp_wk_boundBy_B17_ok  {x1 : Int32} {X : wt_X} {n : Nat} {res : Int32 × wt_St} (hE : wt_Ok X prog_11_method_14_code 9 "WornType$Weeks" 4 0) (hR : wt_Rt X (some .int) (some res.1) res.2) (hD : ∀ i, i < 108 → wt_dom (wt_xw X) i)  {K17 : Int32 × Int32 × Int32 × Int32 × wt_St → Option (Int32 × wt_St)} (hK17 : ∀ s : Int32 × Int32 × Int32 × Int32 × wt_St, K17 s = some res → wt_V X 0 s.2.2.2.2 17 [some (.ref (wt_ad (wt_xw X) 86)), some (.int x1), some (.int s.1), some (.int s.2.1), some (.int s.2.2.1), some (.int s.2.2.2.1), none, none, none] []) {s : Int32 × Int32 × Int32 × Int32 × wt_St} (h : wp_wk_boundBy_B17 n x1 K17 s = some res) : wt_V X 0 s.2.2.2.2 17 [some (.ref (wt_ad (wt_xw X) 86)), some (.int x1), some (.int s.1), some (.int s.2.1), some (.int s.2.2.1), some (.int s.2.2.2.1), none, none, none] [] := by
  unfold wp_wk_boundBy_B17 at h
  refine wt_iload hE wp_wk_boundBy_d17 rfl ?_
  refine wt_aload_n hE wp_wk_boundBy_d19 rfl ?_
  refine wt_getr hE (r := 39) wt_lf_wk_19 (hD 86 (Nat.le_of_ble_eq_true rfl)) wt_L86 rfl wp_wk_boundBy_d20 ?_
  refine wt_geti hE wt_lf_wk_67 (hD 39 (Nat.le_of_ble_eq_true rfl)) wt_L39 rfl wp_wk_boundBy_d23 ?_
  refine wt_icmp_ge hE 115 wp_wk_boundBy_d26 rfl (fun c2 => ?_) (fun c2 => ?_)
  · have h := wt_ip c2 h
    refine wt_iload_n hE wp_wk_boundBy_d115 rfl ?_
    cases h
    exact wt_iret hE hR wp_wk_boundBy_d116
  · have h := wt_in c2 h
    refine wt_aload_n hE wp_wk_boundBy_d29 rfl ?_
    refine wt_iload_n hE wp_wk_boundBy_d30 rfl ?_
    refine wt_iload hE wp_wk_boundBy_d31 rfl ?_
    obtain ⟨q3, hq3, h⟩ := wt_bi h
    refine wt_callVi hE [.int x1, .int s.2.2.1] wt_lm_wk_148 wt_ya_wk_dearestOf (wp_wk_dearestOf_ok hD hq3) (by omega) (hD 86 (Nat.le_of_ble_eq_true rfl)) wt_L86 rfl rfl rfl (Nat.le_of_ble_eq_true rfl) (Nat.zero_le _) wp_wk_boundBy_d33 (fun hbq3 => ?_)
    refine wt_istore hE [some (.ref (wt_ad (wt_xw X) 86)), some (.int x1), some (.int s.1), some (.int s.2.1), some (.int s.2.2.1), some (.int s.2.2.2.1), some (.int q3.1), none, none] wp_wk_boundBy_d36 (Nat.le_of_ble_eq_true rfl) rfl ?_
    refine wt_iload hE wp_wk_boundBy_d38 rfl ?_
    refine wt_iconst hE (-1 : Int32) wp_wk_boundBy_d40 wt_ci_m1 ?_
    refine wt_icmp_ne hE 46 wp_wk_boundBy_d41 rfl (fun c4 => ?_) (fun c4 => ?_)
    · have h := wt_in c4 h
      refine wt_iload hE wp_wk_boundBy_d46 rfl ?_
      refine wt_iconst hE (1 : Int32) wp_wk_boundBy_d48 wt_ci_1 ?_
      refine wt_iload hE wp_wk_boundBy_d49 rfl ?_
      refine wt_ishl hE wp_wk_boundBy_d51 ?_
      refine wt_ior hE wp_wk_boundBy_d52 ?_
      refine wt_istore hE [some (.ref (wt_ad (wt_xw X) 86)), some (.int x1), some (.int s.1), some (.int s.2.1), some (.int (s.2.2.1 ||| ((1 : Int32) <<< (q3.1 &&& 31)))), some (.int s.2.2.2.1), some (.int q3.1), none, none] wp_wk_boundBy_d53 (Nat.le_of_ble_eq_true rfl) rfl ?_
      refine wt_aload_n hE wp_wk_boundBy_d55 rfl ?_
      refine wt_iload hE wp_wk_boundBy_d56 rfl ?_
      refine wt_iload_n hE wp_wk_boundBy_d58 rfl ?_
      obtain ⟨q5, hq5, h⟩ := wt_bi h
      refine wt_callVi hE [.int q3.1, .int x1] wt_lm_wk_151 wt_ya_wk_printsOf (wp_wk_printsOf_ok hD hq5) (by omega) (hD 86 (Nat.le_of_ble_eq_true rfl)) wt_L86 rfl rfl rfl (Nat.le_of_ble_eq_true rfl) (Nat.zero_le _) wp_wk_boundBy_d59 (fun hbq5 => ?_)
      refine wt_istore hE [some (.ref (wt_ad (wt_xw X) 86)), some (.int x1), some (.int s.1), some (.int s.2.1), some (.int (s.2.2.1 ||| ((1 : Int32) <<< (q3.1 &&& 31)))), some (.int s.2.2.2.1), some (.int q3.1), some (.int q5.1), none] wp_wk_boundBy_d62 (Nat.le_of_ble_eq_true rfl) rfl ?_
      refine wt_aload_n hE wp_wk_boundBy_d64 rfl ?_
      refine wt_getr hE (r := 39) wt_lf_wk_19 (hD 86 (Nat.le_of_ble_eq_true rfl)) wt_L86 rfl wp_wk_boundBy_d65 ?_
      refine wt_getr hE (r := 47) wt_lf_wk_121 (hD 39 (Nat.le_of_ble_eq_true rfl)) wt_L39 rfl wp_wk_boundBy_d68 ?_
      refine wt_iload hE wp_wk_boundBy_d71 rfl ?_
      obtain ⟨q6, hq6, h⟩ := wt_bi h
      refine wt_callSi hE [.ref (wt_ad (wt_xw X) 47), .int q3.1] wt_lm_wk_70 wt_ya_ap_look (wp_ap_look_ok (wt_lnE wt_L47) (hD 47 (Nat.le_of_ble_eq_true rfl)) hq6) (by omega) rfl rfl (Nat.le_of_ble_eq_true rfl) (Nat.zero_le _) wp_wk_boundBy_d73 (fun hbq6 => ?_)
      refine wt_istore hE [some (.ref (wt_ad (wt_xw X) 86)), some (.int x1), some (.int s.1), some (.int s.2.1), some (.int (s.2.2.1 ||| ((1 : Int32) <<< (q3.1 &&& 31)))), some (.int s.2.2.2.1), some (.int q3.1), some (.int q5.1), some (.int q6.1)] wp_wk_boundBy_d76 (Nat.le_of_ble_eq_true rfl) rfl ?_
      refine wt_iload hE wp_wk_boundBy_d78 rfl ?_
      refine wt_iload_n hE wp_wk_boundBy_d80 rfl ?_
      refine wt_icmp_le hE 99 wp_wk_boundBy_d81 rfl (fun c7 => ?_) (fun c7 => ?_)
      · have h := wt_ip c7 h
        refine wt_wk [true, true, true, true, true, true, false, true, true] rfl ?_
        exact wp_wk_boundBy_B99_ok hE hR hD hK17 h
      · have h := wt_in c7 h
        refine wt_iload hE wp_wk_boundBy_d84 rfl ?_
        refine wt_if_le hE 99 wp_wk_boundBy_d86 rfl (fun c8 => ?_) (fun c8 => ?_)
        · have h := wt_ip c8 h
          refine wt_wk [true, true, true, true, true, true, false, true, true] rfl ?_
          exact wp_wk_boundBy_B99_ok hE hR hD hK17 h
        · have h := wt_in c8 h
          refine wt_iload_n hE wp_wk_boundBy_d89 rfl ?_
          refine wt_iload hE wp_wk_boundBy_d90 rfl ?_
          refine wt_iload_n hE wp_wk_boundBy_d92 rfl ?_
          refine wt_imul hE wp_wk_boundBy_d93 ?_
          refine wt_iload hE wp_wk_boundBy_d94 rfl ?_
          obtain ⟨g9, h⟩ := wt_gd h
          refine wt_idiv hE wp_wk_boundBy_d96 g9 ?_
          refine wt_iadd hE wp_wk_boundBy_d97 ?_
          cases h
          exact wt_iret hE hR wp_wk_boundBy_d98
    · have h := wt_ip c4 h
      refine wt_iload_n hE wp_wk_boundBy_d44 rfl ?_
      cases h
      exact wt_iret hE hR wp_wk_boundBy_d45
noncomputable def wp_wk_boundBy (n : Nat) (x1 : Int32) (σ : wt_St) : Option (Int32 × wt_St) :=
  (wp_sk_leftInCase n x1 σ).bind fun q1 =>
  wt_it (wp_wk_boundBy_B17 n x1) n (q1.1, (0 : Int32), (0 : Int32), (0 : Int32), q1.2)
set_option maxRecDepth 100000 in
set_option maxHeartbeats 4000000 in
theorem wp_wk_boundBy_ok {l : Launch} {w : wt_E} {n : Nat} {x1 : Int32} (hD : ∀ i, i < 108 → wt_dom w i) {σ : wt_St} {q : Int32 × wt_St} (h : wp_wk_boundBy n x1 σ = some q) : wt_Ctr l w wt_y_wk_boundBy prog_11_method_14_code 9 (some .int) 4 [.ref (wt_ad w 86), .int x1] σ (some q.1) q.2 := by
  refine wt_ctr wt_pl_wk_boundBy rfl (Nat.le_of_ble_eq_true rfl) [some (.ref (wt_ad w 86)), some (.int x1), none, none, none, none, none, none, none] rfl ?_
  intro X hXl hXw hE hR
  subst hXl
  subst hXw
  have hE : wt_Ok X prog_11_method_14_code 9 "WornType$Weeks" 4 0 := hE
  unfold wp_wk_boundBy at h
  refine wt_aload_n hE wp_wk_boundBy_d0 rfl ?_
  refine wt_getr hE (r := 76) wt_lf_wk_23 (hD 86 (Nat.le_of_ble_eq_true rfl)) wt_L86 rfl wp_wk_boundBy_d1 ?_
  refine wt_iload_n hE wp_wk_boundBy_d4 rfl ?_
  obtain ⟨q1, hq1, h⟩ := wt_bi h
  refine wt_callVi hE [.int x1] wt_lm_wk_145 wt_ya_sk_leftInCase (wp_sk_leftInCase_ok hD hq1) (by omega) (hD 76 (Nat.le_of_ble_eq_true rfl)) wt_L76 rfl rfl rfl (Nat.le_of_ble_eq_true rfl) (Nat.zero_le _) wp_wk_boundBy_d5 (fun hbq1 => ?_)
  refine wt_istore_n hE [some (.ref (wt_ad (wt_xw X) 86)), some (.int x1), some (.int q1.1), none, none, none, none, none, none] wp_wk_boundBy_d8 (by decide) rfl ?_
  refine wt_iconst hE (0 : Int32) wp_wk_boundBy_d9 wt_ci_0 ?_
  refine wt_istore_n hE [some (.ref (wt_ad (wt_xw X) 86)), some (.int x1), some (.int q1.1), some (.int (0 : Int32)), none, none, none, none, none] wp_wk_boundBy_d10 (by decide) rfl ?_
  refine wt_iconst hE (0 : Int32) wp_wk_boundBy_d11 wt_ci_0 ?_
  refine wt_istore hE [some (.ref (wt_ad (wt_xw X) 86)), some (.int x1), some (.int q1.1), some (.int (0 : Int32)), some (.int (0 : Int32)), none, none, none, none] wp_wk_boundBy_d12 (Nat.le_of_ble_eq_true rfl) rfl ?_
  refine wt_iconst hE (0 : Int32) wp_wk_boundBy_d14 wt_ci_0 ?_
  refine wt_istore hE [some (.ref (wt_ad (wt_xw X) 86)), some (.int x1), some (.int q1.1), some (.int (0 : Int32)), some (.int (0 : Int32)), some (.int (0 : Int32)), none, none, none] wp_wk_boundBy_d15 (Nat.le_of_ble_eq_true rfl) rfl ?_
  exact wt_it_ind (fun z => wt_V X 0 z.2.2.2.2 17 [some (.ref (wt_ad (wt_xw X) 86)), some (.int x1), some (.int z.1), some (.int z.2.1), some (.int z.2.2.1), some (.int z.2.2.2.1), none, none, none] []) (fun K hK z h => wp_wk_boundBy_B17_ok hE hR hD hK h) n (q1.1, (0 : Int32), (0 : Int32), (0 : Int32), q1.2) h
def wb10m0_prog_11_method_7_code_r1 : List (List Nat) := [27, 172] :: []
def wb10m0_prog_11_method_7_code_r0 : List (List Nat) := [42, 3, 182, 0, 100, 60, 4, 61, 28, 16, 26, 162, 0, 19, 27, 42, 28, 182, 0, 100, 184, 0, 103, 60, 132, 2, 1, 167, 255, 237] :: wb10m0_prog_11_method_7_code_r1
set_option maxRecDepth 100000 in
theorem wb10m0_prog_11_method_7_code_c0 : wt_cs prog_11_method_7_code 0 wb10m0_prog_11_method_7_code_r0 := wt_cs_of (by decide +kernel)
theorem wb10m0_prog_11_method_7_code_c1 : wt_cs prog_11_method_7_code 30 wb10m0_prog_11_method_7_code_r1 := wt_cs_tl (m := 30) wb10m0_prog_11_method_7_code_c0 rfl rfl
theorem wp_wk_leastBound_d0 : decode prog_11_method_7_code 0 = .ok (.aload_n 0, 1) := wt_op42 wb10m0_prog_11_method_7_code_c0 0 rfl rfl
theorem wp_wk_leastBound_d1 : decode prog_11_method_7_code 1 = .ok (.iconst 0, 1) := wt_op3 wb10m0_prog_11_method_7_code_c0 1 rfl rfl
theorem wp_wk_leastBound_d2 : decode prog_11_method_7_code 2 = .ok (.invokevirtual 100, 3) := wt_op182 wb10m0_prog_11_method_7_code_c0 2 rfl rfl rfl
theorem wp_wk_leastBound_d5 : decode prog_11_method_7_code 5 = .ok (.istore_n 1, 1) := wt_op60 wb10m0_prog_11_method_7_code_c0 5 rfl rfl
theorem wp_wk_leastBound_d6 : decode prog_11_method_7_code 6 = .ok (.iconst 1, 1) := wt_op4 wb10m0_prog_11_method_7_code_c0 6 rfl rfl
theorem wp_wk_leastBound_d7 : decode prog_11_method_7_code 7 = .ok (.istore_n 2, 1) := wt_op61 wb10m0_prog_11_method_7_code_c0 7 rfl rfl
theorem wp_wk_leastBound_d8 : decode prog_11_method_7_code 8 = .ok (.iload_n 2, 1) := wt_op28 wb10m0_prog_11_method_7_code_c0 8 rfl rfl
theorem wp_wk_leastBound_d9 : decode prog_11_method_7_code 9 = .ok (.bipush 26, 2) := wt_op16 wb10m0_prog_11_method_7_code_c0 9 rfl rfl rfl
theorem wp_wk_leastBound_d11 : decode prog_11_method_7_code 11 = .ok (.if_icmp .ge 19, 3) := wt_op162 wb10m0_prog_11_method_7_code_c0 11 rfl rfl rfl
theorem wp_wk_leastBound_d14 : decode prog_11_method_7_code 14 = .ok (.iload_n 1, 1) := wt_op27 wb10m0_prog_11_method_7_code_c0 14 rfl rfl
theorem wp_wk_leastBound_d15 : decode prog_11_method_7_code 15 = .ok (.aload_n 0, 1) := wt_op42 wb10m0_prog_11_method_7_code_c0 15 rfl rfl
theorem wp_wk_leastBound_d16 : decode prog_11_method_7_code 16 = .ok (.iload_n 2, 1) := wt_op28 wb10m0_prog_11_method_7_code_c0 16 rfl rfl
theorem wp_wk_leastBound_d17 : decode prog_11_method_7_code 17 = .ok (.invokevirtual 100, 3) := wt_op182 wb10m0_prog_11_method_7_code_c0 17 rfl rfl rfl
theorem wp_wk_leastBound_d20 : decode prog_11_method_7_code 20 = .ok (.invokestatic 103, 3) := wt_op184 wb10m0_prog_11_method_7_code_c0 20 rfl rfl rfl
theorem wp_wk_leastBound_d23 : decode prog_11_method_7_code 23 = .ok (.istore_n 1, 1) := wt_op60 wb10m0_prog_11_method_7_code_c0 23 rfl rfl
theorem wp_wk_leastBound_d24 : decode prog_11_method_7_code 24 = .ok (.iinc 2 1, 3) := wt_op132 wb10m0_prog_11_method_7_code_c0 24 rfl rfl rfl
theorem wp_wk_leastBound_d27 : decode prog_11_method_7_code 27 = .ok (.goto (-19), 3) := wt_op167 wb10m0_prog_11_method_7_code_c0 27 rfl rfl rfl
theorem wp_wk_leastBound_d30 : decode prog_11_method_7_code 30 = .ok (.iload_n 1, 1) := wt_op27 wb10m0_prog_11_method_7_code_c1 0 rfl rfl
theorem wp_wk_leastBound_d31 : decode prog_11_method_7_code 31 = .ok (.ireturn, 1) := wt_op172 wb10m0_prog_11_method_7_code_c1 1 rfl rfl
noncomputable def wp_wk_leastBound_B8 (n : Nat) (K8 : Int32 × Int32 × wt_St → Option (Int32 × wt_St)) (s : Int32 × Int32 × wt_St) : Option (Int32 × wt_St) :=
  if (26 : Int32) ≤ s.2.1 then
    some (s.1, s.2.2)
  else
    (wp_wk_boundBy n s.2.1 s.2.2).bind fun q3 =>
    K8 ((if q3.1 < s.1 then q3.1 else s.1), (s.2.1 + (1 : Int32)), q3.2)
set_option maxRecDepth 100000 in
set_option maxHeartbeats 4000000 in
theorem wp_wk_leastBound_B8_ok  {X : wt_X} {n : Nat} {res : Int32 × wt_St} (hE : wt_Ok X prog_11_method_7_code 3 "WornType$Weeks" 5 0) (hR : wt_Rt X (some .int) (some res.1) res.2) (hD : ∀ i, i < 108 → wt_dom (wt_xw X) i)  {K8 : Int32 × Int32 × wt_St → Option (Int32 × wt_St)} (hK8 : ∀ s : Int32 × Int32 × wt_St, K8 s = some res → wt_V X 0 s.2.2 8 [some (.ref (wt_ad (wt_xw X) 86)), some (.int s.1), some (.int s.2.1)] []) {s : Int32 × Int32 × wt_St} (h : wp_wk_leastBound_B8 n K8 s = some res) : wt_V X 0 s.2.2 8 [some (.ref (wt_ad (wt_xw X) 86)), some (.int s.1), some (.int s.2.1)] [] := by
  unfold wp_wk_leastBound_B8 at h
  refine wt_iload_n hE wp_wk_leastBound_d8 rfl ?_
  refine wt_bipush hE (26 : Int32) wp_wk_leastBound_d9 wt_cb_26 ?_
  refine wt_icmp_ge hE 30 wp_wk_leastBound_d11 rfl (fun c2 => ?_) (fun c2 => ?_)
  · have h := wt_ip c2 h
    refine wt_iload_n hE wp_wk_leastBound_d30 rfl ?_
    cases h
    exact wt_iret hE hR wp_wk_leastBound_d31
  · have h := wt_in c2 h
    refine wt_iload_n hE wp_wk_leastBound_d14 rfl ?_
    refine wt_aload_n hE wp_wk_leastBound_d15 rfl ?_
    refine wt_iload_n hE wp_wk_leastBound_d16 rfl ?_
    obtain ⟨q3, hq3, h⟩ := wt_bi h
    refine wt_callVi hE [.int s.2.1] wt_lm_wk_100 wt_ya_wk_boundBy (wp_wk_boundBy_ok hD hq3) (by omega) (hD 86 (Nat.le_of_ble_eq_true rfl)) wt_L86 rfl rfl rfl (Nat.le_of_ble_eq_true rfl) (Nat.zero_le _) wp_wk_leastBound_d17 (fun hbq3 => ?_)
    refine wt_min hE wt_lm_wk_103 wt_ms_min wt_mi wt_mc_min (by omega) (Nat.zero_le _) (Nat.le_of_ble_eq_true rfl) wp_wk_leastBound_d20 ?_
    refine wt_istore_n hE [some (.ref (wt_ad (wt_xw X) 86)), some (.int (if q3.1 < s.1 then q3.1 else s.1)), some (.int s.2.1)] wp_wk_leastBound_d23 (by decide) rfl ?_
    refine wt_iinc hE (s.2.1 + (1 : Int32)) [some (.ref (wt_ad (wt_xw X) 86)), some (.int (if q3.1 < s.1 then q3.1 else s.1)), some (.int (s.2.1 + (1 : Int32)))] wp_wk_leastBound_d24 (by decide) rfl rfl rfl ?_
    refine wt_goto hE 8 wp_wk_leastBound_d27 rfl ?_
    exact hK8 ((if q3.1 < s.1 then q3.1 else s.1), (s.2.1 + (1 : Int32)), q3.2) h
noncomputable def wp_wk_leastBound (n : Nat) (σ : wt_St) : Option (Int32 × wt_St) :=
  (wp_wk_boundBy n (0 : Int32) σ).bind fun q1 =>
  wt_it (wp_wk_leastBound_B8 n) n (q1.1, (1 : Int32), q1.2)
set_option maxRecDepth 100000 in
set_option maxHeartbeats 4000000 in
theorem wp_wk_leastBound_ok {l : Launch} {w : wt_E} {n : Nat} (hD : ∀ i, i < 108 → wt_dom w i) {σ : wt_St} {q : Int32 × wt_St} (h : wp_wk_leastBound n σ = some q) : wt_Ctr l w wt_y_wk_leastBound prog_11_method_7_code 3 (some .int) 5 [.ref (wt_ad w 86)] σ (some q.1) q.2 := by
  refine wt_ctr wt_pl_wk_leastBound rfl (Nat.le_of_ble_eq_true rfl) [some (.ref (wt_ad w 86)), none, none] rfl ?_
  intro X hXl hXw hE hR
  subst hXl
  subst hXw
  have hE : wt_Ok X prog_11_method_7_code 3 "WornType$Weeks" 5 0 := hE
  unfold wp_wk_leastBound at h
  refine wt_aload_n hE wp_wk_leastBound_d0 rfl ?_
  refine wt_iconst hE (0 : Int32) wp_wk_leastBound_d1 wt_ci_0 ?_
  obtain ⟨q1, hq1, h⟩ := wt_bi h
  refine wt_callVi hE [.int (0 : Int32)] wt_lm_wk_100 wt_ya_wk_boundBy (wp_wk_boundBy_ok hD hq1) (by omega) (hD 86 (Nat.le_of_ble_eq_true rfl)) wt_L86 rfl rfl rfl (Nat.le_of_ble_eq_true rfl) (Nat.zero_le _) wp_wk_leastBound_d2 (fun hbq1 => ?_)
  refine wt_istore_n hE [some (.ref (wt_ad (wt_xw X) 86)), some (.int q1.1), none] wp_wk_leastBound_d5 (by decide) rfl ?_
  refine wt_iconst hE (1 : Int32) wp_wk_leastBound_d6 wt_ci_1 ?_
  refine wt_istore_n hE [some (.ref (wt_ad (wt_xw X) 86)), some (.int q1.1), some (.int (1 : Int32))] wp_wk_leastBound_d7 (by decide) rfl ?_
  exact wt_it_ind (fun z => wt_V X 0 z.2.2 8 [some (.ref (wt_ad (wt_xw X) 86)), some (.int z.1), some (.int z.2.1)] []) (fun K hK z h => wp_wk_leastBound_B8_ok hE hR hD hK h) n (q1.1, (1 : Int32), q1.2) h
def wb10m0_prog_1_method_28_code_r0 : List (List Nat) := [42, 180, 0, 84, 182, 1, 78, 172] :: []
set_option maxRecDepth 100000 in
theorem wb10m0_prog_1_method_28_code_c0 : wt_cs prog_1_method_28_code 0 wb10m0_prog_1_method_28_code_r0 := wt_cs_of (by decide +kernel)
theorem wp_ap_bound_d0 : decode prog_1_method_28_code 0 = .ok (.aload_n 0, 1) := wt_op42 wb10m0_prog_1_method_28_code_c0 0 rfl rfl
theorem wp_ap_bound_d1 : decode prog_1_method_28_code 1 = .ok (.getfield 84, 3) := wt_op180 wb10m0_prog_1_method_28_code_c0 1 rfl rfl rfl
theorem wp_ap_bound_d4 : decode prog_1_method_28_code 4 = .ok (.invokevirtual 334, 3) := wt_op182 wb10m0_prog_1_method_28_code_c0 4 rfl rfl rfl
theorem wp_ap_bound_d7 : decode prog_1_method_28_code 7 = .ok (.ireturn, 1) := wt_op172 wb10m0_prog_1_method_28_code_c0 7 rfl rfl
noncomputable def wp_ap_bound (n : Nat) (σ : wt_St) : Option (Int32 × wt_St) :=
  (wp_wk_leastBound n σ).bind fun q1 =>
  some (q1.1, q1.2)
set_option maxRecDepth 100000 in
set_option maxHeartbeats 4000000 in
theorem wp_ap_bound_ok {l : Launch} {w : wt_E} {n : Nat} (hD : ∀ i, i < 108 → wt_dom w i) {σ : wt_St} {q : Int32 × wt_St} (h : wp_ap_bound n σ = some q) : wt_Ctr l w wt_y_ap_bound prog_1_method_28_code 1 (some .int) 6 [.ref (wt_ad w 0)] σ (some q.1) q.2 := by
  refine wt_ctr wt_pl_ap_bound rfl (Nat.le_of_ble_eq_true rfl) [some (.ref (wt_ad w 0))] rfl ?_
  intro X hXl hXw hE hR
  subst hXl
  subst hXw
  have hE : wt_Ok X prog_1_method_28_code 1 "WornType" 6 0 := hE
  unfold wp_ap_bound at h
  refine wt_aload_n hE wp_ap_bound_d0 rfl ?_
  refine wt_getr hE (r := 86) wt_lf_ap_84 (hD 0 (Nat.le_of_ble_eq_true rfl)) wt_L0 rfl wp_ap_bound_d1 ?_
  obtain ⟨q1, hq1, h⟩ := wt_bi h
  refine wt_callVi hE [] wt_lm_ap_334 wt_ya_wk_leastBound (wp_wk_leastBound_ok hD hq1) (by omega) (hD 86 (Nat.le_of_ble_eq_true rfl)) wt_L86 rfl rfl rfl (Nat.le_of_ble_eq_true rfl) (Nat.zero_le _) wp_ap_bound_d4 (fun hbq1 => ?_)
  cases h
  exact wt_iret hE hR wp_ap_bound_d7
def wb10m0_prog_6_method_9_code_r2 : List (List Nat) := [167, 255, 205, 21, 4, 172] :: []
def wb10m0_prog_6_method_9_code_r1 : List (List Nat) := [21, 6, 182, 0, 41, 153, 0, 17, 45, 21, 6, 184, 0, 25, 28, 161, 0, 7, 4, 167, 0, 4, 3, 96, 54, 4, 132, 5, 1] :: wb10m0_prog_6_method_9_code_r2
def wb10m0_prog_6_method_9_code_r0 : List (List Nat) := [3, 54, 4, 3, 54, 5, 21, 5, 42, 27, 182, 0, 29, 162, 0, 47, 27, 16, 12, 104, 21, 5, 96, 54, 6, 21, 4, 42] :: wb10m0_prog_6_method_9_code_r1
set_option maxRecDepth 100000 in
theorem wb10m0_prog_6_method_9_code_c0 : wt_cs prog_6_method_9_code 0 wb10m0_prog_6_method_9_code_r0 := wt_cs_of (by decide +kernel)
theorem wb10m0_prog_6_method_9_code_c1 : wt_cs prog_6_method_9_code 28 wb10m0_prog_6_method_9_code_r1 := wt_cs_tl (m := 28) wb10m0_prog_6_method_9_code_c0 rfl rfl
theorem wb10m0_prog_6_method_9_code_c2 : wt_cs prog_6_method_9_code 57 wb10m0_prog_6_method_9_code_r2 := wt_cs_tl (m := 29) wb10m0_prog_6_method_9_code_c1 rfl rfl
theorem wp_sk_ready_d0 : decode prog_6_method_9_code 0 = .ok (.iconst 0, 1) := wt_op3 wb10m0_prog_6_method_9_code_c0 0 rfl rfl
theorem wp_sk_ready_d1 : decode prog_6_method_9_code 1 = .ok (.istore 4, 2) := wt_op54 wb10m0_prog_6_method_9_code_c0 1 rfl rfl
theorem wp_sk_ready_d3 : decode prog_6_method_9_code 3 = .ok (.iconst 0, 1) := wt_op3 wb10m0_prog_6_method_9_code_c0 3 rfl rfl
theorem wp_sk_ready_d4 : decode prog_6_method_9_code 4 = .ok (.istore 5, 2) := wt_op54 wb10m0_prog_6_method_9_code_c0 4 rfl rfl
theorem wp_sk_ready_d6 : decode prog_6_method_9_code 6 = .ok (.iload 5, 2) := wt_op21 wb10m0_prog_6_method_9_code_c0 6 rfl rfl
theorem wp_sk_ready_d8 : decode prog_6_method_9_code 8 = .ok (.aload_n 0, 1) := wt_op42 wb10m0_prog_6_method_9_code_c0 8 rfl rfl
theorem wp_sk_ready_d9 : decode prog_6_method_9_code 9 = .ok (.iload_n 1, 1) := wt_op27 wb10m0_prog_6_method_9_code_c0 9 rfl rfl
theorem wp_sk_ready_d10 : decode prog_6_method_9_code 10 = .ok (.invokevirtual 29, 3) := wt_op182 wb10m0_prog_6_method_9_code_c0 10 rfl rfl rfl
theorem wp_sk_ready_d13 : decode prog_6_method_9_code 13 = .ok (.if_icmp .ge 47, 3) := wt_op162 wb10m0_prog_6_method_9_code_c0 13 rfl rfl rfl
theorem wp_sk_ready_d16 : decode prog_6_method_9_code 16 = .ok (.iload_n 1, 1) := wt_op27 wb10m0_prog_6_method_9_code_c0 16 rfl rfl
theorem wp_sk_ready_d17 : decode prog_6_method_9_code 17 = .ok (.bipush 12, 2) := wt_op16 wb10m0_prog_6_method_9_code_c0 17 rfl rfl rfl
theorem wp_sk_ready_d19 : decode prog_6_method_9_code 19 = .ok (.imul, 1) := wt_op104 wb10m0_prog_6_method_9_code_c0 19 rfl rfl
theorem wp_sk_ready_d20 : decode prog_6_method_9_code 20 = .ok (.iload 5, 2) := wt_op21 wb10m0_prog_6_method_9_code_c0 20 rfl rfl
theorem wp_sk_ready_d22 : decode prog_6_method_9_code 22 = .ok (.iadd, 1) := wt_op96 wb10m0_prog_6_method_9_code_c0 22 rfl rfl
theorem wp_sk_ready_d23 : decode prog_6_method_9_code 23 = .ok (.istore 6, 2) := wt_op54 wb10m0_prog_6_method_9_code_c0 23 rfl rfl
theorem wp_sk_ready_d25 : decode prog_6_method_9_code 25 = .ok (.iload 4, 2) := wt_op21 wb10m0_prog_6_method_9_code_c0 25 rfl rfl
theorem wp_sk_ready_d27 : decode prog_6_method_9_code 27 = .ok (.aload_n 0, 1) := wt_op42 wb10m0_prog_6_method_9_code_c0 27 rfl rfl
theorem wp_sk_ready_d28 : decode prog_6_method_9_code 28 = .ok (.iload 6, 2) := wt_op21 wb10m0_prog_6_method_9_code_c1 0 rfl rfl
theorem wp_sk_ready_d30 : decode prog_6_method_9_code 30 = .ok (.invokevirtual 41, 3) := wt_op182 wb10m0_prog_6_method_9_code_c1 2 rfl rfl rfl
theorem wp_sk_ready_d33 : decode prog_6_method_9_code 33 = .ok (.ifCond .eq 17, 3) := wt_op153 wb10m0_prog_6_method_9_code_c1 5 rfl rfl rfl
theorem wp_sk_ready_d36 : decode prog_6_method_9_code 36 = .ok (.aload_n 3, 1) := wt_op45 wb10m0_prog_6_method_9_code_c1 8 rfl rfl
theorem wp_sk_ready_d37 : decode prog_6_method_9_code 37 = .ok (.iload 6, 2) := wt_op21 wb10m0_prog_6_method_9_code_c1 9 rfl rfl
theorem wp_sk_ready_d39 : decode prog_6_method_9_code 39 = .ok (.invokestatic 25, 3) := wt_op184 wb10m0_prog_6_method_9_code_c1 11 rfl rfl rfl
theorem wp_sk_ready_d42 : decode prog_6_method_9_code 42 = .ok (.iload_n 2, 1) := wt_op28 wb10m0_prog_6_method_9_code_c1 14 rfl rfl
theorem wp_sk_ready_d43 : decode prog_6_method_9_code 43 = .ok (.if_icmp .lt 7, 3) := wt_op161 wb10m0_prog_6_method_9_code_c1 15 rfl rfl rfl
theorem wp_sk_ready_d46 : decode prog_6_method_9_code 46 = .ok (.iconst 1, 1) := wt_op4 wb10m0_prog_6_method_9_code_c1 18 rfl rfl
theorem wp_sk_ready_d47 : decode prog_6_method_9_code 47 = .ok (.goto 4, 3) := wt_op167 wb10m0_prog_6_method_9_code_c1 19 rfl rfl rfl
theorem wp_sk_ready_d50 : decode prog_6_method_9_code 50 = .ok (.iconst 0, 1) := wt_op3 wb10m0_prog_6_method_9_code_c1 22 rfl rfl
theorem wp_sk_ready_d51 : decode prog_6_method_9_code 51 = .ok (.iadd, 1) := wt_op96 wb10m0_prog_6_method_9_code_c1 23 rfl rfl
theorem wp_sk_ready_d52 : decode prog_6_method_9_code 52 = .ok (.istore 4, 2) := wt_op54 wb10m0_prog_6_method_9_code_c1 24 rfl rfl
theorem wp_sk_ready_d54 : decode prog_6_method_9_code 54 = .ok (.iinc 5 1, 3) := wt_op132 wb10m0_prog_6_method_9_code_c1 26 rfl rfl rfl
theorem wp_sk_ready_d57 : decode prog_6_method_9_code 57 = .ok (.goto (-51), 3) := wt_op167 wb10m0_prog_6_method_9_code_c2 0 rfl rfl rfl
theorem wp_sk_ready_d60 : decode prog_6_method_9_code 60 = .ok (.iload 4, 2) := wt_op21 wb10m0_prog_6_method_9_code_c2 3 rfl rfl
theorem wp_sk_ready_d62 : decode prog_6_method_9_code 62 = .ok (.ireturn, 1) := wt_op172 wb10m0_prog_6_method_9_code_c2 5 rfl rfl
noncomputable def wp_sk_ready_B51 (n : Nat) (a3 : Nat) (x1 : Int32) (x2 : Int32) (x5 : Int32) (K6 : Int32 × Int32 × wt_St → Option (Int32 × wt_St)) (y0 : Int32) (y1 : Int32) (σ : wt_St) : Option (Int32 × wt_St) :=
  K6 ((y0 + y1), (x5 + (1 : Int32)), σ)
set_option maxRecDepth 100000 in
set_option maxHeartbeats 4000000 in
theorem wp_sk_ready_B51_ok  {a3 : Nat} {x1 : Int32} {x2 : Int32} {x5 : Int32} {X : wt_X} {n : Nat} {res : Int32 × wt_St} (hE : wt_Ok X prog_6_method_9_code 7 "WornType$Stock" 2 0) (hR : wt_Rt X (some .int) (some res.1) res.2) (hD : ∀ i, i < 108 → wt_dom (wt_xw X) i) (hA_a3 : wt_LAY[a3]? = some (0, wt_ln a3, [])) (hd_a3 : wt_dom (wt_xw X) a3) {K6 : Int32 × Int32 × wt_St → Option (Int32 × wt_St)} (hK6 : ∀ s : Int32 × Int32 × wt_St, K6 s = some res → wt_V X 0 s.2.2 6 [some (.ref (wt_ad (wt_xw X) 76)), some (.int x1), some (.int x2), some (.ref (wt_ad (wt_xw X) a3)), some (.int s.1), some (.int s.2.1), none] []) {σ : wt_St} {y0 : Int32} {y1 : Int32} (h : wp_sk_ready_B51 n a3 x1 x2 x5 K6 y0 y1 σ = some res) : wt_V X 0 σ 51 [some (.ref (wt_ad (wt_xw X) 76)), some (.int x1), some (.int x2), some (.ref (wt_ad (wt_xw X) a3)), none, some (.int x5), none] [.int y1, .int y0] := by
  unfold wp_sk_ready_B51 at h
  refine wt_iadd hE wp_sk_ready_d51 ?_
  refine wt_istore hE [some (.ref (wt_ad (wt_xw X) 76)), some (.int x1), some (.int x2), some (.ref (wt_ad (wt_xw X) a3)), some (.int (y0 + y1)), some (.int x5), none] wp_sk_ready_d52 (Nat.le_of_ble_eq_true rfl) rfl ?_
  refine wt_iinc hE (x5 + (1 : Int32)) [some (.ref (wt_ad (wt_xw X) 76)), some (.int x1), some (.int x2), some (.ref (wt_ad (wt_xw X) a3)), some (.int (y0 + y1)), some (.int (x5 + (1 : Int32))), none] wp_sk_ready_d54 (by decide) rfl rfl rfl ?_
  refine wt_goto hE 6 wp_sk_ready_d57 rfl ?_
  exact hK6 ((y0 + y1), (x5 + (1 : Int32)), σ) h
noncomputable def wp_sk_ready_B50 (n : Nat) (a3 : Nat) (x1 : Int32) (x2 : Int32) (x5 : Int32) (K6 : Int32 × Int32 × wt_St → Option (Int32 × wt_St)) (y0 : Int32) (σ : wt_St) : Option (Int32 × wt_St) :=
  wp_sk_ready_B51 n a3 x1 x2 x5 K6 y0 (0 : Int32) σ
set_option maxRecDepth 100000 in
set_option maxHeartbeats 4000000 in
theorem wp_sk_ready_B50_ok  {a3 : Nat} {x1 : Int32} {x2 : Int32} {x5 : Int32} {X : wt_X} {n : Nat} {res : Int32 × wt_St} (hE : wt_Ok X prog_6_method_9_code 7 "WornType$Stock" 2 0) (hR : wt_Rt X (some .int) (some res.1) res.2) (hD : ∀ i, i < 108 → wt_dom (wt_xw X) i) (hA_a3 : wt_LAY[a3]? = some (0, wt_ln a3, [])) (hd_a3 : wt_dom (wt_xw X) a3) {K6 : Int32 × Int32 × wt_St → Option (Int32 × wt_St)} (hK6 : ∀ s : Int32 × Int32 × wt_St, K6 s = some res → wt_V X 0 s.2.2 6 [some (.ref (wt_ad (wt_xw X) 76)), some (.int x1), some (.int x2), some (.ref (wt_ad (wt_xw X) a3)), some (.int s.1), some (.int s.2.1), none] []) {σ : wt_St} {y0 : Int32} (h : wp_sk_ready_B50 n a3 x1 x2 x5 K6 y0 σ = some res) : wt_V X 0 σ 50 [some (.ref (wt_ad (wt_xw X) 76)), some (.int x1), some (.int x2), some (.ref (wt_ad (wt_xw X) a3)), none, some (.int x5), none] [.int y0] := by
  unfold wp_sk_ready_B50 at h
  refine wt_iconst hE (0 : Int32) wp_sk_ready_d50 wt_ci_0 ?_
  exact wp_sk_ready_B51_ok hE hR hD hA_a3 hd_a3 hK6 h
noncomputable def wp_sk_ready_B6 (n : Nat) (a3 : Nat) (x1 : Int32) (x2 : Int32) (K6 : Int32 × Int32 × wt_St → Option (Int32 × wt_St)) (s : Int32 × Int32 × wt_St) : Option (Int32 × wt_St) :=
  (wp_sk_pieces n x1 s.2.2).bind fun q1 =>
  if q1.1 ≤ s.2.1 then
    some (s.1, q1.2)
  else
    (wp_sk_lies n ((x1 * (12 : Int32)) + s.2.1) q1.2).bind fun q3 =>
    if q3.1 = 0 then
      wp_sk_ready_B50 n a3 x1 x2 s.2.1 K6 s.1 q3.2
    else
      (wp_ap_look n a3 ((x1 * (12 : Int32)) + s.2.1) q3.2).bind fun q5 =>
      if q5.1 < x2 then
        wp_sk_ready_B50 n a3 x1 x2 s.2.1 K6 s.1 q5.2
      else
        wp_sk_ready_B51 n a3 x1 x2 s.2.1 K6 s.1 (1 : Int32) q5.2
set_option maxRecDepth 100000 in
set_option maxHeartbeats 4000000 in
theorem wp_sk_ready_B6_ok  {a3 : Nat} {x1 : Int32} {x2 : Int32} {X : wt_X} {n : Nat} {res : Int32 × wt_St} (hE : wt_Ok X prog_6_method_9_code 7 "WornType$Stock" 2 0) (hR : wt_Rt X (some .int) (some res.1) res.2) (hD : ∀ i, i < 108 → wt_dom (wt_xw X) i) (hA_a3 : wt_LAY[a3]? = some (0, wt_ln a3, [])) (hd_a3 : wt_dom (wt_xw X) a3) {K6 : Int32 × Int32 × wt_St → Option (Int32 × wt_St)} (hK6 : ∀ s : Int32 × Int32 × wt_St, K6 s = some res → wt_V X 0 s.2.2 6 [some (.ref (wt_ad (wt_xw X) 76)), some (.int x1), some (.int x2), some (.ref (wt_ad (wt_xw X) a3)), some (.int s.1), some (.int s.2.1), none] []) {s : Int32 × Int32 × wt_St} (h : wp_sk_ready_B6 n a3 x1 x2 K6 s = some res) : wt_V X 0 s.2.2 6 [some (.ref (wt_ad (wt_xw X) 76)), some (.int x1), some (.int x2), some (.ref (wt_ad (wt_xw X) a3)), some (.int s.1), some (.int s.2.1), none] [] := by
  unfold wp_sk_ready_B6 at h
  refine wt_iload hE wp_sk_ready_d6 rfl ?_
  refine wt_aload_n hE wp_sk_ready_d8 rfl ?_
  refine wt_iload_n hE wp_sk_ready_d9 rfl ?_
  obtain ⟨q1, hq1, h⟩ := wt_bi h
  refine wt_callVi hE [.int x1] wt_lm_sk_29 wt_ya_sk_pieces (wp_sk_pieces_ok hD hq1) (by omega) (hD 76 (Nat.le_of_ble_eq_true rfl)) wt_L76 rfl rfl rfl (Nat.le_of_ble_eq_true rfl) (Nat.zero_le _) wp_sk_ready_d10 (fun hbq1 => ?_)
  refine wt_icmp_ge hE 60 wp_sk_ready_d13 rfl (fun c2 => ?_) (fun c2 => ?_)
  · have h := wt_ip c2 h
    refine wt_iload hE wp_sk_ready_d60 rfl ?_
    cases h
    exact wt_iret hE hR wp_sk_ready_d62
  · have h := wt_in c2 h
    refine wt_iload_n hE wp_sk_ready_d16 rfl ?_
    refine wt_bipush hE (12 : Int32) wp_sk_ready_d17 wt_cb_12 ?_
    refine wt_imul hE wp_sk_ready_d19 ?_
    refine wt_iload hE wp_sk_ready_d20 rfl ?_
    refine wt_iadd hE wp_sk_ready_d22 ?_
    refine wt_istore hE [some (.ref (wt_ad (wt_xw X) 76)), some (.int x1), some (.int x2), some (.ref (wt_ad (wt_xw X) a3)), some (.int s.1), some (.int s.2.1), some (.int ((x1 * (12 : Int32)) + s.2.1))] wp_sk_ready_d23 (Nat.le_of_ble_eq_true rfl) rfl ?_
    refine wt_iload hE wp_sk_ready_d25 rfl ?_
    refine wt_aload_n hE wp_sk_ready_d27 rfl ?_
    refine wt_iload hE wp_sk_ready_d28 rfl ?_
    obtain ⟨q3, hq3, h⟩ := wt_bi h
    refine wt_callVi hE [.int ((x1 * (12 : Int32)) + s.2.1)] wt_lm_sk_41 wt_ya_sk_lies (wp_sk_lies_ok hD hq3) (by omega) (hD 76 (Nat.le_of_ble_eq_true rfl)) wt_L76 rfl rfl rfl (Nat.le_of_ble_eq_true rfl) (Nat.zero_le _) wp_sk_ready_d30 (fun hbq3 => ?_)
    refine wt_if_eq hE 50 wp_sk_ready_d33 rfl (fun c4 => ?_) (fun c4 => ?_)
    · have h := wt_ip c4 h
      refine wt_wk [true, true, true, true, false, true, false] rfl ?_
      exact wp_sk_ready_B50_ok hE hR hD hA_a3 hd_a3 hK6 h
    · have h := wt_in c4 h
      refine wt_aload_n hE wp_sk_ready_d36 rfl ?_
      refine wt_iload hE wp_sk_ready_d37 rfl ?_
      obtain ⟨q5, hq5, h⟩ := wt_bi h
      refine wt_callSi hE [.ref (wt_ad (wt_xw X) a3), .int ((x1 * (12 : Int32)) + s.2.1)] wt_lm_sk_25 wt_ya_ap_look (wp_ap_look_ok (wt_lnE hA_a3) hd_a3 hq5) (by omega) rfl rfl (Nat.le_of_ble_eq_true rfl) (Nat.zero_le _) wp_sk_ready_d39 (fun hbq5 => ?_)
      refine wt_iload_n hE wp_sk_ready_d42 rfl ?_
      refine wt_icmp_lt hE 50 wp_sk_ready_d43 rfl (fun c6 => ?_) (fun c6 => ?_)
      · have h := wt_ip c6 h
        refine wt_wk [true, true, true, true, false, true, false] rfl ?_
        exact wp_sk_ready_B50_ok hE hR hD hA_a3 hd_a3 hK6 h
      · have h := wt_in c6 h
        refine wt_iconst hE (1 : Int32) wp_sk_ready_d46 wt_ci_1 ?_
        refine wt_goto hE 51 wp_sk_ready_d47 rfl ?_
        refine wt_wk [true, true, true, true, false, true, false] rfl ?_
        exact wp_sk_ready_B51_ok hE hR hD hA_a3 hd_a3 hK6 h
noncomputable def wp_sk_ready (n : Nat) (a3 : Nat) (x1 : Int32) (x2 : Int32) (σ : wt_St) : Option (Int32 × wt_St) :=
  wt_it (wp_sk_ready_B6 n a3 x1 x2) n ((0 : Int32), (0 : Int32), σ)
set_option maxRecDepth 100000 in
set_option maxHeartbeats 4000000 in
theorem wp_sk_ready_ok {l : Launch} {w : wt_E} {n : Nat} {a3 : Nat} {x1 : Int32} {x2 : Int32} (hD : ∀ i, i < 108 → wt_dom w i) (hA_a3 : wt_LAY[a3]? = some (0, wt_ln a3, [])) (hd_a3 : wt_dom w a3) {σ : wt_St} {q : Int32 × wt_St} (h : wp_sk_ready n a3 x1 x2 σ = some q) : wt_Ctr l w wt_y_sk_ready prog_6_method_9_code 7 (some .int) 2 [.ref (wt_ad w 76), .int x1, .int x2, .ref (wt_ad w a3)] σ (some q.1) q.2 := by
  refine wt_ctr wt_pl_sk_ready rfl (Nat.le_of_ble_eq_true rfl) [some (.ref (wt_ad w 76)), some (.int x1), some (.int x2), some (.ref (wt_ad w a3)), none, none, none] rfl ?_
  intro X hXl hXw hE hR
  subst hXl
  subst hXw
  have hE : wt_Ok X prog_6_method_9_code 7 "WornType$Stock" 2 0 := hE
  unfold wp_sk_ready at h
  refine wt_iconst hE (0 : Int32) wp_sk_ready_d0 wt_ci_0 ?_
  refine wt_istore hE [some (.ref (wt_ad (wt_xw X) 76)), some (.int x1), some (.int x2), some (.ref (wt_ad (wt_xw X) a3)), some (.int (0 : Int32)), none, none] wp_sk_ready_d1 (Nat.le_of_ble_eq_true rfl) rfl ?_
  refine wt_iconst hE (0 : Int32) wp_sk_ready_d3 wt_ci_0 ?_
  refine wt_istore hE [some (.ref (wt_ad (wt_xw X) 76)), some (.int x1), some (.int x2), some (.ref (wt_ad (wt_xw X) a3)), some (.int (0 : Int32)), some (.int (0 : Int32)), none] wp_sk_ready_d4 (Nat.le_of_ble_eq_true rfl) rfl ?_
  exact wt_it_ind (fun z => wt_V X 0 z.2.2 6 [some (.ref (wt_ad (wt_xw X) 76)), some (.int x1), some (.int x2), some (.ref (wt_ad (wt_xw X) a3)), some (.int z.1), some (.int z.2.1), none] []) (fun K hK z h => wp_sk_ready_B6_ok hE hR hD hA_a3 hd_a3 hK h) n ((0 : Int32), (0 : Int32), σ) h
def wb10m0_prog_6_method_11_code_r2 : List (List Nat) := [27, 21, 7, 45, 182, 0, 37, 28, 161, 0, 7, 21, 7, 54, 4, 132, 5, 1, 167, 255, 194, 21, 4, 172] :: []
def wb10m0_prog_6_method_11_code_r1 : List (List Nat) := [96, 54, 6, 45, 21, 6, 184, 0, 25, 54, 7, 42, 21, 6, 182, 0, 41, 153, 0, 26, 21, 7, 21, 4, 164, 0, 19, 42] :: wb10m0_prog_6_method_11_code_r2
def wb10m0_prog_6_method_11_code_r0 : List (List Nat) := [28, 157, 0, 6, 18, 51, 172, 3, 54, 4, 3, 54, 5, 21, 5, 42, 27, 182, 0, 29, 162, 0, 58, 27, 16, 12, 104, 21, 5] :: wb10m0_prog_6_method_11_code_r1
set_option maxRecDepth 100000 in
theorem wb10m0_prog_6_method_11_code_c0 : wt_cs prog_6_method_11_code 0 wb10m0_prog_6_method_11_code_r0 := wt_cs_of (by decide +kernel)
theorem wb10m0_prog_6_method_11_code_c1 : wt_cs prog_6_method_11_code 29 wb10m0_prog_6_method_11_code_r1 := wt_cs_tl (m := 29) wb10m0_prog_6_method_11_code_c0 rfl rfl
theorem wb10m0_prog_6_method_11_code_c2 : wt_cs prog_6_method_11_code 57 wb10m0_prog_6_method_11_code_r2 := wt_cs_tl (m := 28) wb10m0_prog_6_method_11_code_c1 rfl rfl
theorem wp_sk_reach_d0 : decode prog_6_method_11_code 0 = .ok (.iload_n 2, 1) := wt_op28 wb10m0_prog_6_method_11_code_c0 0 rfl rfl
theorem wp_sk_reach_d1 : decode prog_6_method_11_code 1 = .ok (.ifCond .gt 6, 3) := wt_op157 wb10m0_prog_6_method_11_code_c0 1 rfl rfl rfl
theorem wp_sk_reach_d4 : decode prog_6_method_11_code 4 = .ok (.ldc 51, 2) := wt_op18 wb10m0_prog_6_method_11_code_c0 4 rfl rfl
theorem wp_sk_reach_d6 : decode prog_6_method_11_code 6 = .ok (.ireturn, 1) := wt_op172 wb10m0_prog_6_method_11_code_c0 6 rfl rfl
theorem wp_sk_reach_d7 : decode prog_6_method_11_code 7 = .ok (.iconst 0, 1) := wt_op3 wb10m0_prog_6_method_11_code_c0 7 rfl rfl
theorem wp_sk_reach_d8 : decode prog_6_method_11_code 8 = .ok (.istore 4, 2) := wt_op54 wb10m0_prog_6_method_11_code_c0 8 rfl rfl
theorem wp_sk_reach_d10 : decode prog_6_method_11_code 10 = .ok (.iconst 0, 1) := wt_op3 wb10m0_prog_6_method_11_code_c0 10 rfl rfl
theorem wp_sk_reach_d11 : decode prog_6_method_11_code 11 = .ok (.istore 5, 2) := wt_op54 wb10m0_prog_6_method_11_code_c0 11 rfl rfl
theorem wp_sk_reach_d13 : decode prog_6_method_11_code 13 = .ok (.iload 5, 2) := wt_op21 wb10m0_prog_6_method_11_code_c0 13 rfl rfl
theorem wp_sk_reach_d15 : decode prog_6_method_11_code 15 = .ok (.aload_n 0, 1) := wt_op42 wb10m0_prog_6_method_11_code_c0 15 rfl rfl
theorem wp_sk_reach_d16 : decode prog_6_method_11_code 16 = .ok (.iload_n 1, 1) := wt_op27 wb10m0_prog_6_method_11_code_c0 16 rfl rfl
theorem wp_sk_reach_d17 : decode prog_6_method_11_code 17 = .ok (.invokevirtual 29, 3) := wt_op182 wb10m0_prog_6_method_11_code_c0 17 rfl rfl rfl
theorem wp_sk_reach_d20 : decode prog_6_method_11_code 20 = .ok (.if_icmp .ge 58, 3) := wt_op162 wb10m0_prog_6_method_11_code_c0 20 rfl rfl rfl
theorem wp_sk_reach_d23 : decode prog_6_method_11_code 23 = .ok (.iload_n 1, 1) := wt_op27 wb10m0_prog_6_method_11_code_c0 23 rfl rfl
theorem wp_sk_reach_d24 : decode prog_6_method_11_code 24 = .ok (.bipush 12, 2) := wt_op16 wb10m0_prog_6_method_11_code_c0 24 rfl rfl rfl
theorem wp_sk_reach_d26 : decode prog_6_method_11_code 26 = .ok (.imul, 1) := wt_op104 wb10m0_prog_6_method_11_code_c0 26 rfl rfl
theorem wp_sk_reach_d27 : decode prog_6_method_11_code 27 = .ok (.iload 5, 2) := wt_op21 wb10m0_prog_6_method_11_code_c0 27 rfl rfl
theorem wp_sk_reach_d29 : decode prog_6_method_11_code 29 = .ok (.iadd, 1) := wt_op96 wb10m0_prog_6_method_11_code_c1 0 rfl rfl
theorem wp_sk_reach_d30 : decode prog_6_method_11_code 30 = .ok (.istore 6, 2) := wt_op54 wb10m0_prog_6_method_11_code_c1 1 rfl rfl
theorem wp_sk_reach_d32 : decode prog_6_method_11_code 32 = .ok (.aload_n 3, 1) := wt_op45 wb10m0_prog_6_method_11_code_c1 3 rfl rfl
theorem wp_sk_reach_d33 : decode prog_6_method_11_code 33 = .ok (.iload 6, 2) := wt_op21 wb10m0_prog_6_method_11_code_c1 4 rfl rfl
theorem wp_sk_reach_d35 : decode prog_6_method_11_code 35 = .ok (.invokestatic 25, 3) := wt_op184 wb10m0_prog_6_method_11_code_c1 6 rfl rfl rfl
theorem wp_sk_reach_d38 : decode prog_6_method_11_code 38 = .ok (.istore 7, 2) := wt_op54 wb10m0_prog_6_method_11_code_c1 9 rfl rfl
theorem wp_sk_reach_d40 : decode prog_6_method_11_code 40 = .ok (.aload_n 0, 1) := wt_op42 wb10m0_prog_6_method_11_code_c1 11 rfl rfl
theorem wp_sk_reach_d41 : decode prog_6_method_11_code 41 = .ok (.iload 6, 2) := wt_op21 wb10m0_prog_6_method_11_code_c1 12 rfl rfl
theorem wp_sk_reach_d43 : decode prog_6_method_11_code 43 = .ok (.invokevirtual 41, 3) := wt_op182 wb10m0_prog_6_method_11_code_c1 14 rfl rfl rfl
theorem wp_sk_reach_d46 : decode prog_6_method_11_code 46 = .ok (.ifCond .eq 26, 3) := wt_op153 wb10m0_prog_6_method_11_code_c1 17 rfl rfl rfl
theorem wp_sk_reach_d49 : decode prog_6_method_11_code 49 = .ok (.iload 7, 2) := wt_op21 wb10m0_prog_6_method_11_code_c1 20 rfl rfl
theorem wp_sk_reach_d51 : decode prog_6_method_11_code 51 = .ok (.iload 4, 2) := wt_op21 wb10m0_prog_6_method_11_code_c1 22 rfl rfl
theorem wp_sk_reach_d53 : decode prog_6_method_11_code 53 = .ok (.if_icmp .le 19, 3) := wt_op164 wb10m0_prog_6_method_11_code_c1 24 rfl rfl rfl
theorem wp_sk_reach_d56 : decode prog_6_method_11_code 56 = .ok (.aload_n 0, 1) := wt_op42 wb10m0_prog_6_method_11_code_c1 27 rfl rfl
theorem wp_sk_reach_d57 : decode prog_6_method_11_code 57 = .ok (.iload_n 1, 1) := wt_op27 wb10m0_prog_6_method_11_code_c2 0 rfl rfl
theorem wp_sk_reach_d58 : decode prog_6_method_11_code 58 = .ok (.iload 7, 2) := wt_op21 wb10m0_prog_6_method_11_code_c2 1 rfl rfl
theorem wp_sk_reach_d60 : decode prog_6_method_11_code 60 = .ok (.aload_n 3, 1) := wt_op45 wb10m0_prog_6_method_11_code_c2 3 rfl rfl
theorem wp_sk_reach_d61 : decode prog_6_method_11_code 61 = .ok (.invokevirtual 37, 3) := wt_op182 wb10m0_prog_6_method_11_code_c2 4 rfl rfl rfl
theorem wp_sk_reach_d64 : decode prog_6_method_11_code 64 = .ok (.iload_n 2, 1) := wt_op28 wb10m0_prog_6_method_11_code_c2 7 rfl rfl
theorem wp_sk_reach_d65 : decode prog_6_method_11_code 65 = .ok (.if_icmp .lt 7, 3) := wt_op161 wb10m0_prog_6_method_11_code_c2 8 rfl rfl rfl
theorem wp_sk_reach_d68 : decode prog_6_method_11_code 68 = .ok (.iload 7, 2) := wt_op21 wb10m0_prog_6_method_11_code_c2 11 rfl rfl
theorem wp_sk_reach_d70 : decode prog_6_method_11_code 70 = .ok (.istore 4, 2) := wt_op54 wb10m0_prog_6_method_11_code_c2 13 rfl rfl
theorem wp_sk_reach_d72 : decode prog_6_method_11_code 72 = .ok (.iinc 5 1, 3) := wt_op132 wb10m0_prog_6_method_11_code_c2 15 rfl rfl rfl
theorem wp_sk_reach_d75 : decode prog_6_method_11_code 75 = .ok (.goto (-62), 3) := wt_op167 wb10m0_prog_6_method_11_code_c2 18 rfl rfl rfl
theorem wp_sk_reach_d78 : decode prog_6_method_11_code 78 = .ok (.iload 4, 2) := wt_op21 wb10m0_prog_6_method_11_code_c2 21 rfl rfl
theorem wp_sk_reach_d80 : decode prog_6_method_11_code 80 = .ok (.ireturn, 1) := wt_op172 wb10m0_prog_6_method_11_code_c2 23 rfl rfl
noncomputable def wp_sk_reach_B72 (n : Nat) (a3 : Nat) (x1 : Int32) (x2 : Int32) (x4 : Int32) (x5 : Int32) (K13 : Int32 × Int32 × wt_St → Option (Int32 × wt_St)) (σ : wt_St) : Option (Int32 × wt_St) :=
  K13 (x4, (x5 + (1 : Int32)), σ)
set_option maxRecDepth 100000 in
set_option maxHeartbeats 4000000 in
theorem wp_sk_reach_B72_ok  {a3 : Nat} {x1 : Int32} {x2 : Int32} {x4 : Int32} {x5 : Int32} {X : wt_X} {n : Nat} {res : Int32 × wt_St} (hE : wt_Ok X prog_6_method_11_code 8 "WornType$Stock" 3 0) (hR : wt_Rt X (some .int) (some res.1) res.2) (hD : ∀ i, i < 108 → wt_dom (wt_xw X) i) (hA_a3 : wt_LAY[a3]? = some (0, wt_ln a3, [])) (hd_a3 : wt_dom (wt_xw X) a3) {K13 : Int32 × Int32 × wt_St → Option (Int32 × wt_St)} (hK13 : ∀ s : Int32 × Int32 × wt_St, K13 s = some res → wt_V X 0 s.2.2 13 [some (.ref (wt_ad (wt_xw X) 76)), some (.int x1), some (.int x2), some (.ref (wt_ad (wt_xw X) a3)), some (.int s.1), some (.int s.2.1), none, none] []) {σ : wt_St} (h : wp_sk_reach_B72 n a3 x1 x2 x4 x5 K13 σ = some res) : wt_V X 0 σ 72 [some (.ref (wt_ad (wt_xw X) 76)), some (.int x1), some (.int x2), some (.ref (wt_ad (wt_xw X) a3)), some (.int x4), some (.int x5), none, none] [] := by
  unfold wp_sk_reach_B72 at h
  refine wt_iinc hE (x5 + (1 : Int32)) [some (.ref (wt_ad (wt_xw X) 76)), some (.int x1), some (.int x2), some (.ref (wt_ad (wt_xw X) a3)), some (.int x4), some (.int (x5 + (1 : Int32))), none, none] wp_sk_reach_d72 (by decide) rfl rfl rfl ?_
  refine wt_goto hE 13 wp_sk_reach_d75 rfl ?_
  exact hK13 (x4, (x5 + (1 : Int32)), σ) h
noncomputable def wp_sk_reach_B13 (n : Nat) (a3 : Nat) (x1 : Int32) (x2 : Int32) (K13 : Int32 × Int32 × wt_St → Option (Int32 × wt_St)) (s : Int32 × Int32 × wt_St) : Option (Int32 × wt_St) :=
  (wp_sk_pieces n x1 s.2.2).bind fun q2 =>
  if q2.1 ≤ s.2.1 then
    some (s.1, q2.2)
  else
    (wp_ap_look n a3 ((x1 * (12 : Int32)) + s.2.1) q2.2).bind fun q4 =>
    (wp_sk_lies n ((x1 * (12 : Int32)) + s.2.1) q4.2).bind fun q5 =>
    if q5.1 = 0 then
      wp_sk_reach_B72 n a3 x1 x2 s.1 s.2.1 K13 q5.2
    else
      if q4.1 ≤ s.1 then
        wp_sk_reach_B72 n a3 x1 x2 s.1 s.2.1 K13 q5.2
      else
        (wp_sk_ready n a3 x1 q4.1 q5.2).bind fun q8 =>
        if q8.1 < x2 then
          wp_sk_reach_B72 n a3 x1 x2 s.1 s.2.1 K13 q8.2
        else
          wp_sk_reach_B72 n a3 x1 x2 q4.1 s.2.1 K13 q8.2
set_option maxRecDepth 100000 in
set_option maxHeartbeats 4000000 in
theorem wp_sk_reach_B13_ok  {a3 : Nat} {x1 : Int32} {x2 : Int32} {X : wt_X} {n : Nat} {res : Int32 × wt_St} (hE : wt_Ok X prog_6_method_11_code 8 "WornType$Stock" 3 0) (hR : wt_Rt X (some .int) (some res.1) res.2) (hD : ∀ i, i < 108 → wt_dom (wt_xw X) i) (hA_a3 : wt_LAY[a3]? = some (0, wt_ln a3, [])) (hd_a3 : wt_dom (wt_xw X) a3) {K13 : Int32 × Int32 × wt_St → Option (Int32 × wt_St)} (hK13 : ∀ s : Int32 × Int32 × wt_St, K13 s = some res → wt_V X 0 s.2.2 13 [some (.ref (wt_ad (wt_xw X) 76)), some (.int x1), some (.int x2), some (.ref (wt_ad (wt_xw X) a3)), some (.int s.1), some (.int s.2.1), none, none] []) {s : Int32 × Int32 × wt_St} (h : wp_sk_reach_B13 n a3 x1 x2 K13 s = some res) : wt_V X 0 s.2.2 13 [some (.ref (wt_ad (wt_xw X) 76)), some (.int x1), some (.int x2), some (.ref (wt_ad (wt_xw X) a3)), some (.int s.1), some (.int s.2.1), none, none] [] := by
  unfold wp_sk_reach_B13 at h
  refine wt_iload hE wp_sk_reach_d13 rfl ?_
  refine wt_aload_n hE wp_sk_reach_d15 rfl ?_
  refine wt_iload_n hE wp_sk_reach_d16 rfl ?_
  obtain ⟨q2, hq2, h⟩ := wt_bi h
  refine wt_callVi hE [.int x1] wt_lm_sk_29 wt_ya_sk_pieces (wp_sk_pieces_ok hD hq2) (by omega) (hD 76 (Nat.le_of_ble_eq_true rfl)) wt_L76 rfl rfl rfl (Nat.le_of_ble_eq_true rfl) (Nat.zero_le _) wp_sk_reach_d17 (fun hbq2 => ?_)
  refine wt_icmp_ge hE 78 wp_sk_reach_d20 rfl (fun c3 => ?_) (fun c3 => ?_)
  · have h := wt_ip c3 h
    refine wt_iload hE wp_sk_reach_d78 rfl ?_
    cases h
    exact wt_iret hE hR wp_sk_reach_d80
  · have h := wt_in c3 h
    refine wt_iload_n hE wp_sk_reach_d23 rfl ?_
    refine wt_bipush hE (12 : Int32) wp_sk_reach_d24 wt_cb_12 ?_
    refine wt_imul hE wp_sk_reach_d26 ?_
    refine wt_iload hE wp_sk_reach_d27 rfl ?_
    refine wt_iadd hE wp_sk_reach_d29 ?_
    refine wt_istore hE [some (.ref (wt_ad (wt_xw X) 76)), some (.int x1), some (.int x2), some (.ref (wt_ad (wt_xw X) a3)), some (.int s.1), some (.int s.2.1), some (.int ((x1 * (12 : Int32)) + s.2.1)), none] wp_sk_reach_d30 (Nat.le_of_ble_eq_true rfl) rfl ?_
    refine wt_aload_n hE wp_sk_reach_d32 rfl ?_
    refine wt_iload hE wp_sk_reach_d33 rfl ?_
    obtain ⟨q4, hq4, h⟩ := wt_bi h
    refine wt_callSi hE [.ref (wt_ad (wt_xw X) a3), .int ((x1 * (12 : Int32)) + s.2.1)] wt_lm_sk_25 wt_ya_ap_look (wp_ap_look_ok (wt_lnE hA_a3) hd_a3 hq4) (by omega) rfl rfl (Nat.le_of_ble_eq_true rfl) (Nat.zero_le _) wp_sk_reach_d35 (fun hbq4 => ?_)
    refine wt_istore hE [some (.ref (wt_ad (wt_xw X) 76)), some (.int x1), some (.int x2), some (.ref (wt_ad (wt_xw X) a3)), some (.int s.1), some (.int s.2.1), some (.int ((x1 * (12 : Int32)) + s.2.1)), some (.int q4.1)] wp_sk_reach_d38 (Nat.le_of_ble_eq_true rfl) rfl ?_
    refine wt_aload_n hE wp_sk_reach_d40 rfl ?_
    refine wt_iload hE wp_sk_reach_d41 rfl ?_
    obtain ⟨q5, hq5, h⟩ := wt_bi h
    refine wt_callVi hE [.int ((x1 * (12 : Int32)) + s.2.1)] wt_lm_sk_41 wt_ya_sk_lies (wp_sk_lies_ok hD hq5) (by omega) (hD 76 (Nat.le_of_ble_eq_true rfl)) wt_L76 rfl rfl rfl (Nat.le_of_ble_eq_true rfl) (Nat.zero_le _) wp_sk_reach_d43 (fun hbq5 => ?_)
    refine wt_if_eq hE 72 wp_sk_reach_d46 rfl (fun c6 => ?_) (fun c6 => ?_)
    · have h := wt_ip c6 h
      refine wt_wk [true, true, true, true, true, true, false, false] rfl ?_
      exact wp_sk_reach_B72_ok hE hR hD hA_a3 hd_a3 hK13 h
    · have h := wt_in c6 h
      refine wt_iload hE wp_sk_reach_d49 rfl ?_
      refine wt_iload hE wp_sk_reach_d51 rfl ?_
      refine wt_icmp_le hE 72 wp_sk_reach_d53 rfl (fun c7 => ?_) (fun c7 => ?_)
      · have h := wt_ip c7 h
        refine wt_wk [true, true, true, true, true, true, false, false] rfl ?_
        exact wp_sk_reach_B72_ok hE hR hD hA_a3 hd_a3 hK13 h
      · have h := wt_in c7 h
        refine wt_aload_n hE wp_sk_reach_d56 rfl ?_
        refine wt_iload_n hE wp_sk_reach_d57 rfl ?_
        refine wt_iload hE wp_sk_reach_d58 rfl ?_
        refine wt_aload_n hE wp_sk_reach_d60 rfl ?_
        obtain ⟨q8, hq8, h⟩ := wt_bi h
        refine wt_callVi hE [.int x1, .int q4.1, .ref (wt_ad (wt_xw X) a3)] wt_lm_sk_37 wt_ya_sk_ready (wp_sk_ready_ok hD (wt_lnE hA_a3) hd_a3 hq8) (by omega) (hD 76 (Nat.le_of_ble_eq_true rfl)) wt_L76 rfl rfl rfl (Nat.le_of_ble_eq_true rfl) (Nat.zero_le _) wp_sk_reach_d61 (fun hbq8 => ?_)
        refine wt_iload_n hE wp_sk_reach_d64 rfl ?_
        refine wt_icmp_lt hE 72 wp_sk_reach_d65 rfl (fun c9 => ?_) (fun c9 => ?_)
        · have h := wt_ip c9 h
          refine wt_wk [true, true, true, true, true, true, false, false] rfl ?_
          exact wp_sk_reach_B72_ok hE hR hD hA_a3 hd_a3 hK13 h
        · have h := wt_in c9 h
          refine wt_iload hE wp_sk_reach_d68 rfl ?_
          refine wt_istore hE [some (.ref (wt_ad (wt_xw X) 76)), some (.int x1), some (.int x2), some (.ref (wt_ad (wt_xw X) a3)), some (.int q4.1), some (.int s.2.1), some (.int ((x1 * (12 : Int32)) + s.2.1)), some (.int q4.1)] wp_sk_reach_d70 (Nat.le_of_ble_eq_true rfl) rfl ?_
          refine wt_wk [true, true, true, true, true, true, false, false] rfl ?_
          exact wp_sk_reach_B72_ok hE hR hD hA_a3 hd_a3 hK13 h
noncomputable def wp_sk_reach (n : Nat) (a3 : Nat) (x1 : Int32) (x2 : Int32) (σ : wt_St) : Option (Int32 × wt_St) :=
  if 0 < x2 then
    wt_it (wp_sk_reach_B13 n a3 x1 x2) n ((0 : Int32), (0 : Int32), σ)
  else
    some ((1000000 : Int32), σ)
set_option maxRecDepth 100000 in
set_option maxHeartbeats 4000000 in
theorem wp_sk_reach_ok {l : Launch} {w : wt_E} {n : Nat} {a3 : Nat} {x1 : Int32} {x2 : Int32} (hD : ∀ i, i < 108 → wt_dom w i) (hA_a3 : wt_LAY[a3]? = some (0, wt_ln a3, [])) (hd_a3 : wt_dom w a3) {σ : wt_St} {q : Int32 × wt_St} (h : wp_sk_reach n a3 x1 x2 σ = some q) : wt_Ctr l w wt_y_sk_reach prog_6_method_11_code 8 (some .int) 3 [.ref (wt_ad w 76), .int x1, .int x2, .ref (wt_ad w a3)] σ (some q.1) q.2 := by
  refine wt_ctr wt_pl_sk_reach rfl (Nat.le_of_ble_eq_true rfl) [some (.ref (wt_ad w 76)), some (.int x1), some (.int x2), some (.ref (wt_ad w a3)), none, none, none, none] rfl ?_
  intro X hXl hXw hE hR
  subst hXl
  subst hXw
  have hE : wt_Ok X prog_6_method_11_code 8 "WornType$Stock" 3 0 := hE
  unfold wp_sk_reach at h
  refine wt_iload_n hE wp_sk_reach_d0 rfl ?_
  refine wt_if_gt hE 7 wp_sk_reach_d1 rfl (fun c1 => ?_) (fun c1 => ?_)
  · have h := wt_ip c1 h
    refine wt_iconst hE (0 : Int32) wp_sk_reach_d7 wt_ci_0 ?_
    refine wt_istore hE [some (.ref (wt_ad (wt_xw X) 76)), some (.int x1), some (.int x2), some (.ref (wt_ad (wt_xw X) a3)), some (.int (0 : Int32)), none, none, none] wp_sk_reach_d8 (Nat.le_of_ble_eq_true rfl) rfl ?_
    refine wt_iconst hE (0 : Int32) wp_sk_reach_d10 wt_ci_0 ?_
    refine wt_istore hE [some (.ref (wt_ad (wt_xw X) 76)), some (.int x1), some (.int x2), some (.ref (wt_ad (wt_xw X) a3)), some (.int (0 : Int32)), some (.int (0 : Int32)), none, none] wp_sk_reach_d11 (Nat.le_of_ble_eq_true rfl) rfl ?_
    exact wt_it_ind (fun z => wt_V X 0 z.2.2 13 [some (.ref (wt_ad (wt_xw X) 76)), some (.int x1), some (.int x2), some (.ref (wt_ad (wt_xw X) a3)), some (.int z.1), some (.int z.2.1), none, none] []) (fun K hK z h => wp_sk_reach_B13_ok hE hR hD hA_a3 hd_a3 hK h) n ((0 : Int32), (0 : Int32), σ) h
  · have h := wt_in c1 h
    refine wt_ldc hE (1000000 : Int32) wt_lc_sk_51 wp_sk_reach_d4 ?_
    cases h
    exact wt_iret hE hR wp_sk_reach_d6
def wb10m0_prog_6_method_12_code_r1 : List (List Nat) := [62, 132, 4, 1, 167, 255, 230, 29, 172] :: []
def wb10m0_prog_6_method_12_code_r0 : List (List Nat) := [18, 51, 62, 3, 54, 4, 21, 4, 43, 190, 162, 0, 25, 29, 42, 21, 4, 43, 21, 4, 46, 44, 182, 0, 52, 184, 0, 55] :: wb10m0_prog_6_method_12_code_r1
set_option maxRecDepth 100000 in
theorem wb10m0_prog_6_method_12_code_c0 : wt_cs prog_6_method_12_code 0 wb10m0_prog_6_method_12_code_r0 := wt_cs_of (by decide +kernel)
theorem wb10m0_prog_6_method_12_code_c1 : wt_cs prog_6_method_12_code 28 wb10m0_prog_6_method_12_code_r1 := wt_cs_tl (m := 28) wb10m0_prog_6_method_12_code_c0 rfl rfl
theorem wp_sk_often_d0 : decode prog_6_method_12_code 0 = .ok (.ldc 51, 2) := wt_op18 wb10m0_prog_6_method_12_code_c0 0 rfl rfl
theorem wp_sk_often_d2 : decode prog_6_method_12_code 2 = .ok (.istore_n 3, 1) := wt_op62 wb10m0_prog_6_method_12_code_c0 2 rfl rfl
theorem wp_sk_often_d3 : decode prog_6_method_12_code 3 = .ok (.iconst 0, 1) := wt_op3 wb10m0_prog_6_method_12_code_c0 3 rfl rfl
theorem wp_sk_often_d4 : decode prog_6_method_12_code 4 = .ok (.istore 4, 2) := wt_op54 wb10m0_prog_6_method_12_code_c0 4 rfl rfl
theorem wp_sk_often_d6 : decode prog_6_method_12_code 6 = .ok (.iload 4, 2) := wt_op21 wb10m0_prog_6_method_12_code_c0 6 rfl rfl
theorem wp_sk_often_d8 : decode prog_6_method_12_code 8 = .ok (.aload_n 1, 1) := wt_op43 wb10m0_prog_6_method_12_code_c0 8 rfl rfl
theorem wp_sk_often_d9 : decode prog_6_method_12_code 9 = .ok (.arraylength, 1) := wt_op190 wb10m0_prog_6_method_12_code_c0 9 rfl rfl
theorem wp_sk_often_d10 : decode prog_6_method_12_code 10 = .ok (.if_icmp .ge 25, 3) := wt_op162 wb10m0_prog_6_method_12_code_c0 10 rfl rfl rfl
theorem wp_sk_often_d13 : decode prog_6_method_12_code 13 = .ok (.iload_n 3, 1) := wt_op29 wb10m0_prog_6_method_12_code_c0 13 rfl rfl
theorem wp_sk_often_d14 : decode prog_6_method_12_code 14 = .ok (.aload_n 0, 1) := wt_op42 wb10m0_prog_6_method_12_code_c0 14 rfl rfl
theorem wp_sk_often_d15 : decode prog_6_method_12_code 15 = .ok (.iload 4, 2) := wt_op21 wb10m0_prog_6_method_12_code_c0 15 rfl rfl
theorem wp_sk_often_d17 : decode prog_6_method_12_code 17 = .ok (.aload_n 1, 1) := wt_op43 wb10m0_prog_6_method_12_code_c0 17 rfl rfl
theorem wp_sk_often_d18 : decode prog_6_method_12_code 18 = .ok (.iload 4, 2) := wt_op21 wb10m0_prog_6_method_12_code_c0 18 rfl rfl
theorem wp_sk_often_d20 : decode prog_6_method_12_code 20 = .ok (.iaload, 1) := wt_op46 wb10m0_prog_6_method_12_code_c0 20 rfl rfl
theorem wp_sk_often_d21 : decode prog_6_method_12_code 21 = .ok (.aload_n 2, 1) := wt_op44 wb10m0_prog_6_method_12_code_c0 21 rfl rfl
theorem wp_sk_often_d22 : decode prog_6_method_12_code 22 = .ok (.invokevirtual 52, 3) := wt_op182 wb10m0_prog_6_method_12_code_c0 22 rfl rfl rfl
theorem wp_sk_often_d25 : decode prog_6_method_12_code 25 = .ok (.invokestatic 55, 3) := wt_op184 wb10m0_prog_6_method_12_code_c0 25 rfl rfl rfl
theorem wp_sk_often_d28 : decode prog_6_method_12_code 28 = .ok (.istore_n 3, 1) := wt_op62 wb10m0_prog_6_method_12_code_c1 0 rfl rfl
theorem wp_sk_often_d29 : decode prog_6_method_12_code 29 = .ok (.iinc 4 1, 3) := wt_op132 wb10m0_prog_6_method_12_code_c1 1 rfl rfl rfl
theorem wp_sk_often_d32 : decode prog_6_method_12_code 32 = .ok (.goto (-26), 3) := wt_op167 wb10m0_prog_6_method_12_code_c1 4 rfl rfl rfl
theorem wp_sk_often_d35 : decode prog_6_method_12_code 35 = .ok (.iload_n 3, 1) := wt_op29 wb10m0_prog_6_method_12_code_c1 7 rfl rfl
theorem wp_sk_often_d36 : decode prog_6_method_12_code 36 = .ok (.ireturn, 1) := wt_op172 wb10m0_prog_6_method_12_code_c1 8 rfl rfl
noncomputable def wp_sk_often_B6 (n : Nat) (a1 : Nat) (a2 : Nat) (K6 : Int32 × Int32 × wt_St → Option (Int32 × wt_St)) (s : Int32 × Int32 × wt_St) : Option (Int32 × wt_St) :=
  if (nI (wt_ln a1)) ≤ s.2.1 then
    some (s.1, s.2.2)
  else
    if s.2.1 < 0 ∨ (wt_ln a1) ≤ Int32.toNatClampNeg s.2.1 then none else
    (wp_sk_reach n a2 s.2.1 (wt_ga s.2.2 a1 (Int32.toNatClampNeg s.2.1)) s.2.2).bind fun q3 =>
    K6 ((if q3.1 < s.1 then q3.1 else s.1), (s.2.1 + (1 : Int32)), q3.2)
set_option maxRecDepth 100000 in
set_option maxHeartbeats 4000000 in
theorem wp_sk_often_B6_ok  {a1 : Nat} {a2 : Nat} {X : wt_X} {n : Nat} {res : Int32 × wt_St} (hE : wt_Ok X prog_6_method_12_code 5 "WornType$Stock" 4 0) (hR : wt_Rt X (some .int) (some res.1) res.2) (hD : ∀ i, i < 108 → wt_dom (wt_xw X) i) (hA_a1 : wt_LAY[a1]? = some (0, wt_ln a1, [])) (hd_a1 : wt_dom (wt_xw X) a1) (hA_a2 : wt_LAY[a2]? = some (0, wt_ln a2, [])) (hd_a2 : wt_dom (wt_xw X) a2) {K6 : Int32 × Int32 × wt_St → Option (Int32 × wt_St)} (hK6 : ∀ s : Int32 × Int32 × wt_St, K6 s = some res → wt_V X 0 s.2.2 6 [some (.ref (wt_ad (wt_xw X) 76)), some (.ref (wt_ad (wt_xw X) a1)), some (.ref (wt_ad (wt_xw X) a2)), some (.int s.1), some (.int s.2.1)] []) {s : Int32 × Int32 × wt_St} (h : wp_sk_often_B6 n a1 a2 K6 s = some res) : wt_V X 0 s.2.2 6 [some (.ref (wt_ad (wt_xw X) 76)), some (.ref (wt_ad (wt_xw X) a1)), some (.ref (wt_ad (wt_xw X) a2)), some (.int s.1), some (.int s.2.1)] [] := by
  unfold wp_sk_often_B6 at h
  refine wt_iload hE wp_sk_often_d6 rfl ?_
  refine wt_aload_n hE wp_sk_often_d8 rfl ?_
  refine wt_alen hE (nI (wt_ln a1)) hd_a1 hA_a1 rfl wp_sk_often_d9 ?_
  refine wt_icmp_ge hE 35 wp_sk_often_d10 rfl (fun c1 => ?_) (fun c1 => ?_)
  · have h := wt_ip c1 h
    refine wt_iload_n hE wp_sk_often_d35 rfl ?_
    cases h
    exact wt_iret hE hR wp_sk_often_d36
  · have h := wt_in c1 h
    refine wt_iload_n hE wp_sk_often_d13 rfl ?_
    refine wt_aload_n hE wp_sk_often_d14 rfl ?_
    refine wt_iload hE wp_sk_often_d15 rfl ?_
    refine wt_aload_n hE wp_sk_often_d17 rfl ?_
    refine wt_iload hE wp_sk_often_d18 rfl ?_
    obtain ⟨g2, h⟩ := wt_gd h
    refine wt_iald hE hd_a1 hA_a1 g2 wp_sk_often_d20 ?_
    refine wt_aload_n hE wp_sk_often_d21 rfl ?_
    obtain ⟨q3, hq3, h⟩ := wt_bi h
    refine wt_callVi hE [.int s.2.1, .int (wt_ga s.2.2 a1 (Int32.toNatClampNeg s.2.1)), .ref (wt_ad (wt_xw X) a2)] wt_lm_sk_52 wt_ya_sk_reach (wp_sk_reach_ok hD (wt_lnE hA_a2) hd_a2 hq3) (by omega) (hD 76 (Nat.le_of_ble_eq_true rfl)) wt_L76 rfl rfl rfl (Nat.le_of_ble_eq_true rfl) (Nat.zero_le _) wp_sk_often_d22 (fun hbq3 => ?_)
    refine wt_min hE wt_lm_sk_55 wt_ms_min wt_mi wt_mc_min (by omega) (Nat.zero_le _) (Nat.le_of_ble_eq_true rfl) wp_sk_often_d25 ?_
    refine wt_istore_n hE [some (.ref (wt_ad (wt_xw X) 76)), some (.ref (wt_ad (wt_xw X) a1)), some (.ref (wt_ad (wt_xw X) a2)), some (.int (if q3.1 < s.1 then q3.1 else s.1)), some (.int s.2.1)] wp_sk_often_d28 (by decide) rfl ?_
    refine wt_iinc hE (s.2.1 + (1 : Int32)) [some (.ref (wt_ad (wt_xw X) 76)), some (.ref (wt_ad (wt_xw X) a1)), some (.ref (wt_ad (wt_xw X) a2)), some (.int (if q3.1 < s.1 then q3.1 else s.1)), some (.int (s.2.1 + (1 : Int32)))] wp_sk_often_d29 (by decide) rfl rfl rfl ?_
    refine wt_goto hE 6 wp_sk_often_d32 rfl ?_
    exact hK6 ((if q3.1 < s.1 then q3.1 else s.1), (s.2.1 + (1 : Int32)), q3.2) h
noncomputable def wp_sk_often (n : Nat) (a1 : Nat) (a2 : Nat) (σ : wt_St) : Option (Int32 × wt_St) :=
  wt_it (wp_sk_often_B6 n a1 a2) n ((1000000 : Int32), (0 : Int32), σ)
set_option maxRecDepth 100000 in
set_option maxHeartbeats 4000000 in
theorem wp_sk_often_ok {l : Launch} {w : wt_E} {n : Nat} {a1 : Nat} {a2 : Nat} (hD : ∀ i, i < 108 → wt_dom w i) (hA_a1 : wt_LAY[a1]? = some (0, wt_ln a1, [])) (hd_a1 : wt_dom w a1) (hA_a2 : wt_LAY[a2]? = some (0, wt_ln a2, [])) (hd_a2 : wt_dom w a2) {σ : wt_St} {q : Int32 × wt_St} (h : wp_sk_often n a1 a2 σ = some q) : wt_Ctr l w wt_y_sk_often prog_6_method_12_code 5 (some .int) 4 [.ref (wt_ad w 76), .ref (wt_ad w a1), .ref (wt_ad w a2)] σ (some q.1) q.2 := by
  refine wt_ctr wt_pl_sk_often rfl (Nat.le_of_ble_eq_true rfl) [some (.ref (wt_ad w 76)), some (.ref (wt_ad w a1)), some (.ref (wt_ad w a2)), none, none] rfl ?_
  intro X hXl hXw hE hR
  subst hXl
  subst hXw
  have hE : wt_Ok X prog_6_method_12_code 5 "WornType$Stock" 4 0 := hE
  unfold wp_sk_often at h
  refine wt_ldc hE (1000000 : Int32) wt_lc_sk_51 wp_sk_often_d0 ?_
  refine wt_istore_n hE [some (.ref (wt_ad (wt_xw X) 76)), some (.ref (wt_ad (wt_xw X) a1)), some (.ref (wt_ad (wt_xw X) a2)), some (.int (1000000 : Int32)), none] wp_sk_often_d2 (by decide) rfl ?_
  refine wt_iconst hE (0 : Int32) wp_sk_often_d3 wt_ci_0 ?_
  refine wt_istore hE [some (.ref (wt_ad (wt_xw X) 76)), some (.ref (wt_ad (wt_xw X) a1)), some (.ref (wt_ad (wt_xw X) a2)), some (.int (1000000 : Int32)), some (.int (0 : Int32))] wp_sk_often_d4 (Nat.le_of_ble_eq_true rfl) rfl ?_
  exact wt_it_ind (fun z => wt_V X 0 z.2.2 6 [some (.ref (wt_ad (wt_xw X) 76)), some (.ref (wt_ad (wt_xw X) a1)), some (.ref (wt_ad (wt_xw X) a2)), some (.int z.1), some (.int z.2.1)] []) (fun K hK z h => wp_sk_often_B6_ok hE hR hD hA_a1 hd_a1 hA_a2 hd_a2 hK h) n ((1000000 : Int32), (0 : Int32), σ) h
def wb10m0_prog_8_method_6_code_r0 : List (List Nat) := [3, 62, 29, 44, 190, 162, 0, 18, 44, 29, 42, 27, 29, 182, 0, 36, 79, 132, 3, 1, 167, 255, 238, 177] :: []
set_option maxRecDepth 100000 in
theorem wb10m0_prog_8_method_6_code_c0 : wt_cs prog_8_method_6_code 0 wb10m0_prog_8_method_6_code_r0 := wt_cs_of (by decide +kernel)
theorem wp_tx_spell_d0 : decode prog_8_method_6_code 0 = .ok (.iconst 0, 1) := wt_op3 wb10m0_prog_8_method_6_code_c0 0 rfl rfl
theorem wp_tx_spell_d1 : decode prog_8_method_6_code 1 = .ok (.istore_n 3, 1) := wt_op62 wb10m0_prog_8_method_6_code_c0 1 rfl rfl
theorem wp_tx_spell_d2 : decode prog_8_method_6_code 2 = .ok (.iload_n 3, 1) := wt_op29 wb10m0_prog_8_method_6_code_c0 2 rfl rfl
theorem wp_tx_spell_d3 : decode prog_8_method_6_code 3 = .ok (.aload_n 2, 1) := wt_op44 wb10m0_prog_8_method_6_code_c0 3 rfl rfl
theorem wp_tx_spell_d4 : decode prog_8_method_6_code 4 = .ok (.arraylength, 1) := wt_op190 wb10m0_prog_8_method_6_code_c0 4 rfl rfl
theorem wp_tx_spell_d5 : decode prog_8_method_6_code 5 = .ok (.if_icmp .ge 18, 3) := wt_op162 wb10m0_prog_8_method_6_code_c0 5 rfl rfl rfl
theorem wp_tx_spell_d8 : decode prog_8_method_6_code 8 = .ok (.aload_n 2, 1) := wt_op44 wb10m0_prog_8_method_6_code_c0 8 rfl rfl
theorem wp_tx_spell_d9 : decode prog_8_method_6_code 9 = .ok (.iload_n 3, 1) := wt_op29 wb10m0_prog_8_method_6_code_c0 9 rfl rfl
theorem wp_tx_spell_d10 : decode prog_8_method_6_code 10 = .ok (.aload_n 0, 1) := wt_op42 wb10m0_prog_8_method_6_code_c0 10 rfl rfl
theorem wp_tx_spell_d11 : decode prog_8_method_6_code 11 = .ok (.iload_n 1, 1) := wt_op27 wb10m0_prog_8_method_6_code_c0 11 rfl rfl
theorem wp_tx_spell_d12 : decode prog_8_method_6_code 12 = .ok (.iload_n 3, 1) := wt_op29 wb10m0_prog_8_method_6_code_c0 12 rfl rfl
theorem wp_tx_spell_d13 : decode prog_8_method_6_code 13 = .ok (.invokevirtual 36, 3) := wt_op182 wb10m0_prog_8_method_6_code_c0 13 rfl rfl rfl
theorem wp_tx_spell_d16 : decode prog_8_method_6_code 16 = .ok (.iastore, 1) := wt_op79 wb10m0_prog_8_method_6_code_c0 16 rfl rfl
theorem wp_tx_spell_d17 : decode prog_8_method_6_code 17 = .ok (.iinc 3 1, 3) := wt_op132 wb10m0_prog_8_method_6_code_c0 17 rfl rfl rfl
theorem wp_tx_spell_d20 : decode prog_8_method_6_code 20 = .ok (.goto (-18), 3) := wt_op167 wb10m0_prog_8_method_6_code_c0 20 rfl rfl rfl
theorem wp_tx_spell_d23 : decode prog_8_method_6_code 23 = .ok (.return_, 1) := wt_op177 wb10m0_prog_8_method_6_code_c0 23 rfl rfl
noncomputable def wp_tx_spell_B2 (n : Nat) (a2 : Nat) (x1 : Int32) (K2 : Int32 × wt_St → Option (wt_St)) (s : Int32 × wt_St) : Option (wt_St) :=
  if (nI (wt_ln a2)) ≤ s.1 then
    some s.2
  else
    (wp_tx_needOf n x1 s.1 s.2).bind fun q2 =>
    if s.1 < 0 ∨ (wt_ln a2) ≤ Int32.toNatClampNeg s.1 then none else
    K2 ((s.1 + (1 : Int32)), (wt_sa q2.2 a2 (Int32.toNatClampNeg s.1) q2.1))
set_option maxRecDepth 100000 in
set_option maxHeartbeats 4000000 in
theorem wp_tx_spell_B2_ok  {a2 : Nat} {x1 : Int32} {X : wt_X} {n : Nat} {res : wt_St} (hE : wt_Ok X prog_8_method_6_code 4 "WornType$Texts" 2 0) (hR : wt_Rt X none none res) (hD : ∀ i, i < 108 → wt_dom (wt_xw X) i) (hA_a2 : wt_LAY[a2]? = some (0, wt_ln a2, [])) (hd_a2 : wt_dom (wt_xw X) a2) {K2 : Int32 × wt_St → Option (wt_St)} (hK2 : ∀ s : Int32 × wt_St, K2 s = some res → wt_V X 0 s.2 2 [some (.ref (wt_ad (wt_xw X) 34)), some (.int x1), some (.ref (wt_ad (wt_xw X) a2)), some (.int s.1)] []) {s : Int32 × wt_St} (h : wp_tx_spell_B2 n a2 x1 K2 s = some res) : wt_V X 0 s.2 2 [some (.ref (wt_ad (wt_xw X) 34)), some (.int x1), some (.ref (wt_ad (wt_xw X) a2)), some (.int s.1)] [] := by
  unfold wp_tx_spell_B2 at h
  refine wt_iload_n hE wp_tx_spell_d2 rfl ?_
  refine wt_aload_n hE wp_tx_spell_d3 rfl ?_
  refine wt_alen hE (nI (wt_ln a2)) hd_a2 hA_a2 rfl wp_tx_spell_d4 ?_
  refine wt_icmp_ge hE 23 wp_tx_spell_d5 rfl (fun c1 => ?_) (fun c1 => ?_)
  · have h := wt_ip c1 h
    cases h
    exact wt_vret hE hR wp_tx_spell_d23
  · have h := wt_in c1 h
    refine wt_aload_n hE wp_tx_spell_d8 rfl ?_
    refine wt_iload_n hE wp_tx_spell_d9 rfl ?_
    refine wt_aload_n hE wp_tx_spell_d10 rfl ?_
    refine wt_iload_n hE wp_tx_spell_d11 rfl ?_
    refine wt_iload_n hE wp_tx_spell_d12 rfl ?_
    obtain ⟨q2, hq2, h⟩ := wt_bi h
    refine wt_callVi hE [.int x1, .int s.1] wt_lm_tx_36 wt_ya_tx_needOf (wp_tx_needOf_ok hD hq2) (by omega) (hD 34 (Nat.le_of_ble_eq_true rfl)) wt_L34 rfl rfl rfl (Nat.le_of_ble_eq_true rfl) (Nat.zero_le _) wp_tx_spell_d13 (fun hbq2 => ?_)
    obtain ⟨g3, h⟩ := wt_gd h
    refine wt_iast hE hd_a2 hA_a2 g3 wp_tx_spell_d16 ?_
    refine wt_iinc hE (s.1 + (1 : Int32)) [some (.ref (wt_ad (wt_xw X) 34)), some (.int x1), some (.ref (wt_ad (wt_xw X) a2)), some (.int (s.1 + (1 : Int32)))] wp_tx_spell_d17 (by decide) rfl rfl rfl ?_
    refine wt_goto hE 2 wp_tx_spell_d20 rfl ?_
    exact hK2 ((s.1 + (1 : Int32)), (wt_sa q2.2 a2 (Int32.toNatClampNeg s.1) q2.1)) h
noncomputable def wp_tx_spell (n : Nat) (a2 : Nat) (x1 : Int32) (σ : wt_St) : Option (wt_St) :=
  wt_it (wp_tx_spell_B2 n a2 x1) n ((0 : Int32), σ)
set_option maxRecDepth 100000 in
set_option maxHeartbeats 4000000 in
theorem wp_tx_spell_ok {l : Launch} {w : wt_E} {n : Nat} {a2 : Nat} {x1 : Int32} (hD : ∀ i, i < 108 → wt_dom w i) (hA_a2 : wt_LAY[a2]? = some (0, wt_ln a2, [])) (hd_a2 : wt_dom w a2) {σ : wt_St} {q : wt_St} (h : wp_tx_spell n a2 x1 σ = some q) : wt_Ctr l w wt_y_tx_spell prog_8_method_6_code 4 none 2 [.ref (wt_ad w 34), .int x1, .ref (wt_ad w a2)] σ none q := by
  refine wt_ctr wt_pl_tx_spell rfl (Nat.le_of_ble_eq_true rfl) [some (.ref (wt_ad w 34)), some (.int x1), some (.ref (wt_ad w a2)), none] rfl ?_
  intro X hXl hXw hE hR
  subst hXl
  subst hXw
  have hE : wt_Ok X prog_8_method_6_code 4 "WornType$Texts" 2 0 := hE
  unfold wp_tx_spell at h
  refine wt_iconst hE (0 : Int32) wp_tx_spell_d0 wt_ci_0 ?_
  refine wt_istore_n hE [some (.ref (wt_ad (wt_xw X) 34)), some (.int x1), some (.ref (wt_ad (wt_xw X) a2)), some (.int (0 : Int32))] wp_tx_spell_d1 (by decide) rfl ?_
  exact wt_it_ind (fun z => wt_V X 0 z.2 2 [some (.ref (wt_ad (wt_xw X) 34)), some (.int x1), some (.ref (wt_ad (wt_xw X) a2)), some (.int z.1)] []) (fun K hK z h => wp_tx_spell_B2_ok hE hR hD hA_a2 hd_a2 hK h) n ((0 : Int32), σ) h
def wb10m0_prog_10_method_9_code_r2 : List (List Nat) := [21, 4, 184, 0, 65, 54, 5, 29, 21, 5, 184, 0, 109, 62, 132, 4, 1, 167, 255, 185, 29, 172] :: []
def wb10m0_prog_10_method_9_code_r1 : List (List Nat) := [21, 4, 184, 0, 65, 54, 5, 21, 4, 27, 160, 0, 27, 21, 4, 28, 160, 0, 10, 42, 180, 0, 37, 167, 0, 7, 42, 180, 0, 31] :: wb10m0_prog_10_method_9_code_r2
def wb10m0_prog_10_method_9_code_r0 : List (List Nat) := [18, 117, 62, 3, 54, 4, 21, 4, 16, 26, 162, 0, 70, 21, 4, 28, 160, 0, 10, 42, 180, 0, 34, 167, 0, 7, 42, 180, 0, 27] :: wb10m0_prog_10_method_9_code_r1
set_option maxRecDepth 100000 in
theorem wb10m0_prog_10_method_9_code_c0 : wt_cs prog_10_method_9_code 0 wb10m0_prog_10_method_9_code_r0 := wt_cs_of (by decide +kernel)
theorem wb10m0_prog_10_method_9_code_c1 : wt_cs prog_10_method_9_code 30 wb10m0_prog_10_method_9_code_r1 := wt_cs_tl (m := 30) wb10m0_prog_10_method_9_code_c0 rfl rfl
theorem wb10m0_prog_10_method_9_code_c2 : wt_cs prog_10_method_9_code 60 wb10m0_prog_10_method_9_code_r2 := wt_cs_tl (m := 30) wb10m0_prog_10_method_9_code_c1 rfl rfl
theorem wp_tr_leastOf_d0 : decode prog_10_method_9_code 0 = .ok (.ldc 117, 2) := wt_op18 wb10m0_prog_10_method_9_code_c0 0 rfl rfl
theorem wp_tr_leastOf_d2 : decode prog_10_method_9_code 2 = .ok (.istore_n 3, 1) := wt_op62 wb10m0_prog_10_method_9_code_c0 2 rfl rfl
theorem wp_tr_leastOf_d3 : decode prog_10_method_9_code 3 = .ok (.iconst 0, 1) := wt_op3 wb10m0_prog_10_method_9_code_c0 3 rfl rfl
theorem wp_tr_leastOf_d4 : decode prog_10_method_9_code 4 = .ok (.istore 4, 2) := wt_op54 wb10m0_prog_10_method_9_code_c0 4 rfl rfl
theorem wp_tr_leastOf_d6 : decode prog_10_method_9_code 6 = .ok (.iload 4, 2) := wt_op21 wb10m0_prog_10_method_9_code_c0 6 rfl rfl
theorem wp_tr_leastOf_d8 : decode prog_10_method_9_code 8 = .ok (.bipush 26, 2) := wt_op16 wb10m0_prog_10_method_9_code_c0 8 rfl rfl rfl
theorem wp_tr_leastOf_d10 : decode prog_10_method_9_code 10 = .ok (.if_icmp .ge 70, 3) := wt_op162 wb10m0_prog_10_method_9_code_c0 10 rfl rfl rfl
theorem wp_tr_leastOf_d13 : decode prog_10_method_9_code 13 = .ok (.iload 4, 2) := wt_op21 wb10m0_prog_10_method_9_code_c0 13 rfl rfl
theorem wp_tr_leastOf_d15 : decode prog_10_method_9_code 15 = .ok (.iload_n 2, 1) := wt_op28 wb10m0_prog_10_method_9_code_c0 15 rfl rfl
theorem wp_tr_leastOf_d16 : decode prog_10_method_9_code 16 = .ok (.if_icmp .ne 10, 3) := wt_op160 wb10m0_prog_10_method_9_code_c0 16 rfl rfl rfl
theorem wp_tr_leastOf_d19 : decode prog_10_method_9_code 19 = .ok (.aload_n 0, 1) := wt_op42 wb10m0_prog_10_method_9_code_c0 19 rfl rfl
theorem wp_tr_leastOf_d20 : decode prog_10_method_9_code 20 = .ok (.getfield 34, 3) := wt_op180 wb10m0_prog_10_method_9_code_c0 20 rfl rfl rfl
theorem wp_tr_leastOf_d23 : decode prog_10_method_9_code 23 = .ok (.goto 7, 3) := wt_op167 wb10m0_prog_10_method_9_code_c0 23 rfl rfl rfl
theorem wp_tr_leastOf_d26 : decode prog_10_method_9_code 26 = .ok (.aload_n 0, 1) := wt_op42 wb10m0_prog_10_method_9_code_c0 26 rfl rfl
theorem wp_tr_leastOf_d27 : decode prog_10_method_9_code 27 = .ok (.getfield 27, 3) := wt_op180 wb10m0_prog_10_method_9_code_c0 27 rfl rfl rfl
theorem wp_tr_leastOf_d30 : decode prog_10_method_9_code 30 = .ok (.iload 4, 2) := wt_op21 wb10m0_prog_10_method_9_code_c1 0 rfl rfl
theorem wp_tr_leastOf_d32 : decode prog_10_method_9_code 32 = .ok (.invokestatic 65, 3) := wt_op184 wb10m0_prog_10_method_9_code_c1 2 rfl rfl rfl
theorem wp_tr_leastOf_d35 : decode prog_10_method_9_code 35 = .ok (.istore 5, 2) := wt_op54 wb10m0_prog_10_method_9_code_c1 5 rfl rfl
theorem wp_tr_leastOf_d37 : decode prog_10_method_9_code 37 = .ok (.iload 4, 2) := wt_op21 wb10m0_prog_10_method_9_code_c1 7 rfl rfl
theorem wp_tr_leastOf_d39 : decode prog_10_method_9_code 39 = .ok (.iload_n 1, 1) := wt_op27 wb10m0_prog_10_method_9_code_c1 9 rfl rfl
theorem wp_tr_leastOf_d40 : decode prog_10_method_9_code 40 = .ok (.if_icmp .ne 27, 3) := wt_op160 wb10m0_prog_10_method_9_code_c1 10 rfl rfl rfl
theorem wp_tr_leastOf_d43 : decode prog_10_method_9_code 43 = .ok (.iload 4, 2) := wt_op21 wb10m0_prog_10_method_9_code_c1 13 rfl rfl
theorem wp_tr_leastOf_d45 : decode prog_10_method_9_code 45 = .ok (.iload_n 2, 1) := wt_op28 wb10m0_prog_10_method_9_code_c1 15 rfl rfl
theorem wp_tr_leastOf_d46 : decode prog_10_method_9_code 46 = .ok (.if_icmp .ne 10, 3) := wt_op160 wb10m0_prog_10_method_9_code_c1 16 rfl rfl rfl
theorem wp_tr_leastOf_d49 : decode prog_10_method_9_code 49 = .ok (.aload_n 0, 1) := wt_op42 wb10m0_prog_10_method_9_code_c1 19 rfl rfl
theorem wp_tr_leastOf_d50 : decode prog_10_method_9_code 50 = .ok (.getfield 37, 3) := wt_op180 wb10m0_prog_10_method_9_code_c1 20 rfl rfl rfl
theorem wp_tr_leastOf_d53 : decode prog_10_method_9_code 53 = .ok (.goto 7, 3) := wt_op167 wb10m0_prog_10_method_9_code_c1 23 rfl rfl rfl
theorem wp_tr_leastOf_d56 : decode prog_10_method_9_code 56 = .ok (.aload_n 0, 1) := wt_op42 wb10m0_prog_10_method_9_code_c1 26 rfl rfl
theorem wp_tr_leastOf_d57 : decode prog_10_method_9_code 57 = .ok (.getfield 31, 3) := wt_op180 wb10m0_prog_10_method_9_code_c1 27 rfl rfl rfl
theorem wp_tr_leastOf_d60 : decode prog_10_method_9_code 60 = .ok (.iload 4, 2) := wt_op21 wb10m0_prog_10_method_9_code_c2 0 rfl rfl
theorem wp_tr_leastOf_d62 : decode prog_10_method_9_code 62 = .ok (.invokestatic 65, 3) := wt_op184 wb10m0_prog_10_method_9_code_c2 2 rfl rfl rfl
theorem wp_tr_leastOf_d65 : decode prog_10_method_9_code 65 = .ok (.istore 5, 2) := wt_op54 wb10m0_prog_10_method_9_code_c2 5 rfl rfl
theorem wp_tr_leastOf_d67 : decode prog_10_method_9_code 67 = .ok (.iload_n 3, 1) := wt_op29 wb10m0_prog_10_method_9_code_c2 7 rfl rfl
theorem wp_tr_leastOf_d68 : decode prog_10_method_9_code 68 = .ok (.iload 5, 2) := wt_op21 wb10m0_prog_10_method_9_code_c2 8 rfl rfl
theorem wp_tr_leastOf_d70 : decode prog_10_method_9_code 70 = .ok (.invokestatic 109, 3) := wt_op184 wb10m0_prog_10_method_9_code_c2 10 rfl rfl rfl
theorem wp_tr_leastOf_d73 : decode prog_10_method_9_code 73 = .ok (.istore_n 3, 1) := wt_op62 wb10m0_prog_10_method_9_code_c2 13 rfl rfl
theorem wp_tr_leastOf_d74 : decode prog_10_method_9_code 74 = .ok (.iinc 4 1, 3) := wt_op132 wb10m0_prog_10_method_9_code_c2 14 rfl rfl rfl
theorem wp_tr_leastOf_d77 : decode prog_10_method_9_code 77 = .ok (.goto (-71), 3) := wt_op167 wb10m0_prog_10_method_9_code_c2 17 rfl rfl rfl
theorem wp_tr_leastOf_d80 : decode prog_10_method_9_code 80 = .ok (.iload_n 3, 1) := wt_op29 wb10m0_prog_10_method_9_code_c2 20 rfl rfl
theorem wp_tr_leastOf_d81 : decode prog_10_method_9_code 81 = .ok (.ireturn, 1) := wt_op172 wb10m0_prog_10_method_9_code_c2 21 rfl rfl
noncomputable def wp_tr_leastOf_B67 (n : Nat) (x1 : Int32) (x2 : Int32) (x3 : Int32) (x4 : Int32) (x5 : Int32) (K6 : Int32 × Int32 × wt_St → Option (Int32 × wt_St)) (σ : wt_St) : Option (Int32 × wt_St) :=
  K6 ((if x5 < x3 then x5 else x3), (x4 + (1 : Int32)), σ)
set_option maxRecDepth 100000 in
set_option maxHeartbeats 4000000 in
theorem wp_tr_leastOf_B67_ok  {x1 : Int32} {x2 : Int32} {x3 : Int32} {x4 : Int32} {x5 : Int32} {X : wt_X} {n : Nat} {res : Int32 × wt_St} (hE : wt_Ok X prog_10_method_9_code 6 "WornType$Trade" 1 0) (hR : wt_Rt X (some .int) (some res.1) res.2) (hD : ∀ i, i < 108 → wt_dom (wt_xw X) i)  {K6 : Int32 × Int32 × wt_St → Option (Int32 × wt_St)} (hK6 : ∀ s : Int32 × Int32 × wt_St, K6 s = some res → wt_V X 0 s.2.2 6 [some (.ref (wt_ad (wt_xw X) 101)), some (.int x1), some (.int x2), some (.int s.1), some (.int s.2.1), none] []) {σ : wt_St} (h : wp_tr_leastOf_B67 n x1 x2 x3 x4 x5 K6 σ = some res) : wt_V X 0 σ 67 [some (.ref (wt_ad (wt_xw X) 101)), some (.int x1), some (.int x2), some (.int x3), some (.int x4), some (.int x5)] [] := by
  unfold wp_tr_leastOf_B67 at h
  refine wt_iload_n hE wp_tr_leastOf_d67 rfl ?_
  refine wt_iload hE wp_tr_leastOf_d68 rfl ?_
  refine wt_min hE wt_lm_tr_109 wt_ms_min wt_mi wt_mc_min (by omega) (Nat.zero_le _) (Nat.le_of_ble_eq_true rfl) wp_tr_leastOf_d70 ?_
  refine wt_istore_n hE [some (.ref (wt_ad (wt_xw X) 101)), some (.int x1), some (.int x2), some (.int (if x5 < x3 then x5 else x3)), some (.int x4), some (.int x5)] wp_tr_leastOf_d73 (by decide) rfl ?_
  refine wt_iinc hE (x4 + (1 : Int32)) [some (.ref (wt_ad (wt_xw X) 101)), some (.int x1), some (.int x2), some (.int (if x5 < x3 then x5 else x3)), some (.int (x4 + (1 : Int32))), some (.int x5)] wp_tr_leastOf_d74 (by decide) rfl rfl rfl ?_
  refine wt_goto hE 6 wp_tr_leastOf_d77 rfl ?_
  refine wt_wk [true, true, true, true, true, false] rfl ?_
  exact hK6 ((if x5 < x3 then x5 else x3), (x4 + (1 : Int32)), σ) h
noncomputable def wp_tr_leastOf_B60 (n : Nat) (x1 : Int32) (x2 : Int32) (x3 : Int32) (x4 : Int32) (K6 : Int32 × Int32 × wt_St → Option (Int32 × wt_St)) (e0 : Nat) (σ : wt_St) : Option (Int32 × wt_St) :=
  (wp_ap_look n e0 x4 σ).bind fun q6 =>
  wp_tr_leastOf_B67 n x1 x2 x3 x4 q6.1 K6 q6.2
set_option maxRecDepth 100000 in
set_option maxHeartbeats 4000000 in
theorem wp_tr_leastOf_B60_ok  {x1 : Int32} {x2 : Int32} {x3 : Int32} {x4 : Int32} {e0 : Nat} {X : wt_X} {n : Nat} {res : Int32 × wt_St} (hE : wt_Ok X prog_10_method_9_code 6 "WornType$Trade" 1 0) (hR : wt_Rt X (some .int) (some res.1) res.2) (hD : ∀ i, i < 108 → wt_dom (wt_xw X) i)  (hA_e0 : wt_LAY[e0]? = some (0, 26, [])) (hd_e0 : wt_dom (wt_xw X) e0) {K6 : Int32 × Int32 × wt_St → Option (Int32 × wt_St)} (hK6 : ∀ s : Int32 × Int32 × wt_St, K6 s = some res → wt_V X 0 s.2.2 6 [some (.ref (wt_ad (wt_xw X) 101)), some (.int x1), some (.int x2), some (.int s.1), some (.int s.2.1), none] []) {σ : wt_St} (h : wp_tr_leastOf_B60 n x1 x2 x3 x4 K6 e0 σ = some res) : wt_V X 0 σ 60 [some (.ref (wt_ad (wt_xw X) 101)), some (.int x1), some (.int x2), some (.int x3), some (.int x4), none] [.ref (wt_ad (wt_xw X) e0)] := by
  unfold wp_tr_leastOf_B60 at h
  refine wt_iload hE wp_tr_leastOf_d60 rfl ?_
  obtain ⟨q6, hq6, h⟩ := wt_bi h
  refine wt_callSi hE [.ref (wt_ad (wt_xw X) e0), .int x4] wt_lm_tr_65 wt_ya_ap_look (wp_ap_look_ok (wt_lnE hA_e0) hd_e0 hq6) (by omega) rfl rfl (Nat.le_of_ble_eq_true rfl) (Nat.zero_le _) wp_tr_leastOf_d62 (fun hbq6 => ?_)
  refine wt_istore hE [some (.ref (wt_ad (wt_xw X) 101)), some (.int x1), some (.int x2), some (.int x3), some (.int x4), some (.int q6.1)] wp_tr_leastOf_d65 (Nat.le_of_ble_eq_true rfl) rfl ?_
  exact wp_tr_leastOf_B67_ok hE hR hD hK6 h
noncomputable def wp_tr_leastOf_B30 (n : Nat) (x1 : Int32) (x2 : Int32) (x3 : Int32) (x4 : Int32) (K6 : Int32 × Int32 × wt_St → Option (Int32 × wt_St)) (e0 : Nat) (σ : wt_St) : Option (Int32 × wt_St) :=
  (wp_ap_look n e0 x4 σ).bind fun q3 =>
  if x4 = x1 then
    if x4 = x2 then
      wp_tr_leastOf_B60 n x1 x2 x3 x4 K6 105 q3.2
    else
      wp_tr_leastOf_B60 n x1 x2 x3 x4 K6 103 q3.2
  else
    wp_tr_leastOf_B67 n x1 x2 x3 x4 q3.1 K6 q3.2
set_option maxRecDepth 100000 in
set_option maxHeartbeats 4000000 in
theorem wp_tr_leastOf_B30_ok  {x1 : Int32} {x2 : Int32} {x3 : Int32} {x4 : Int32} {e0 : Nat} {X : wt_X} {n : Nat} {res : Int32 × wt_St} (hE : wt_Ok X prog_10_method_9_code 6 "WornType$Trade" 1 0) (hR : wt_Rt X (some .int) (some res.1) res.2) (hD : ∀ i, i < 108 → wt_dom (wt_xw X) i)  (hA_e0 : wt_LAY[e0]? = some (0, 26, [])) (hd_e0 : wt_dom (wt_xw X) e0) {K6 : Int32 × Int32 × wt_St → Option (Int32 × wt_St)} (hK6 : ∀ s : Int32 × Int32 × wt_St, K6 s = some res → wt_V X 0 s.2.2 6 [some (.ref (wt_ad (wt_xw X) 101)), some (.int x1), some (.int x2), some (.int s.1), some (.int s.2.1), none] []) {σ : wt_St} (h : wp_tr_leastOf_B30 n x1 x2 x3 x4 K6 e0 σ = some res) : wt_V X 0 σ 30 [some (.ref (wt_ad (wt_xw X) 101)), some (.int x1), some (.int x2), some (.int x3), some (.int x4), none] [.ref (wt_ad (wt_xw X) e0)] := by
  unfold wp_tr_leastOf_B30 at h
  refine wt_iload hE wp_tr_leastOf_d30 rfl ?_
  obtain ⟨q3, hq3, h⟩ := wt_bi h
  refine wt_callSi hE [.ref (wt_ad (wt_xw X) e0), .int x4] wt_lm_tr_65 wt_ya_ap_look (wp_ap_look_ok (wt_lnE hA_e0) hd_e0 hq3) (by omega) rfl rfl (Nat.le_of_ble_eq_true rfl) (Nat.zero_le _) wp_tr_leastOf_d32 (fun hbq3 => ?_)
  refine wt_istore hE [some (.ref (wt_ad (wt_xw X) 101)), some (.int x1), some (.int x2), some (.int x3), some (.int x4), some (.int q3.1)] wp_tr_leastOf_d35 (Nat.le_of_ble_eq_true rfl) rfl ?_
  refine wt_iload hE wp_tr_leastOf_d37 rfl ?_
  refine wt_iload_n hE wp_tr_leastOf_d39 rfl ?_
  refine wt_icmp_ne hE 67 wp_tr_leastOf_d40 rfl (fun c4 => ?_) (fun c4 => ?_)
  · have h := wt_in c4 h
    exact wp_tr_leastOf_B67_ok hE hR hD hK6 h
  · have h := wt_ip c4 h
    refine wt_iload hE wp_tr_leastOf_d43 rfl ?_
    refine wt_iload_n hE wp_tr_leastOf_d45 rfl ?_
    refine wt_icmp_ne hE 56 wp_tr_leastOf_d46 rfl (fun c5 => ?_) (fun c5 => ?_)
    · have h := wt_in c5 h
      refine wt_aload_n hE wp_tr_leastOf_d56 rfl ?_
      refine wt_getr hE (r := 103) wt_lf_tr_31 (hD 101 (Nat.le_of_ble_eq_true rfl)) wt_L101 rfl wp_tr_leastOf_d57 ?_
      refine wt_wk [true, true, true, true, true, false] rfl ?_
      exact wp_tr_leastOf_B60_ok hE hR hD wt_L103 (hD 103 (Nat.le_of_ble_eq_true rfl)) hK6 h
    · have h := wt_ip c5 h
      refine wt_aload_n hE wp_tr_leastOf_d49 rfl ?_
      refine wt_getr hE (r := 105) wt_lf_tr_37 (hD 101 (Nat.le_of_ble_eq_true rfl)) wt_L101 rfl wp_tr_leastOf_d50 ?_
      refine wt_goto hE 60 wp_tr_leastOf_d53 rfl ?_
      refine wt_wk [true, true, true, true, true, false] rfl ?_
      exact wp_tr_leastOf_B60_ok hE hR hD wt_L105 (hD 105 (Nat.le_of_ble_eq_true rfl)) hK6 h
noncomputable def wp_tr_leastOf_B6 (n : Nat) (x1 : Int32) (x2 : Int32) (K6 : Int32 × Int32 × wt_St → Option (Int32 × wt_St)) (s : Int32 × Int32 × wt_St) : Option (Int32 × wt_St) :=
  if (26 : Int32) ≤ s.2.1 then
    some (s.1, s.2.2)
  else
    if s.2.1 = x2 then
      wp_tr_leastOf_B30 n x1 x2 s.1 s.2.1 K6 104 s.2.2
    else
      wp_tr_leastOf_B30 n x1 x2 s.1 s.2.1 K6 102 s.2.2
set_option maxRecDepth 100000 in
set_option maxHeartbeats 4000000 in
theorem wp_tr_leastOf_B6_ok  {x1 : Int32} {x2 : Int32} {X : wt_X} {n : Nat} {res : Int32 × wt_St} (hE : wt_Ok X prog_10_method_9_code 6 "WornType$Trade" 1 0) (hR : wt_Rt X (some .int) (some res.1) res.2) (hD : ∀ i, i < 108 → wt_dom (wt_xw X) i)  {K6 : Int32 × Int32 × wt_St → Option (Int32 × wt_St)} (hK6 : ∀ s : Int32 × Int32 × wt_St, K6 s = some res → wt_V X 0 s.2.2 6 [some (.ref (wt_ad (wt_xw X) 101)), some (.int x1), some (.int x2), some (.int s.1), some (.int s.2.1), none] []) {s : Int32 × Int32 × wt_St} (h : wp_tr_leastOf_B6 n x1 x2 K6 s = some res) : wt_V X 0 s.2.2 6 [some (.ref (wt_ad (wt_xw X) 101)), some (.int x1), some (.int x2), some (.int s.1), some (.int s.2.1), none] [] := by
  unfold wp_tr_leastOf_B6 at h
  refine wt_iload hE wp_tr_leastOf_d6 rfl ?_
  refine wt_bipush hE (26 : Int32) wp_tr_leastOf_d8 wt_cb_26 ?_
  refine wt_icmp_ge hE 80 wp_tr_leastOf_d10 rfl (fun c1 => ?_) (fun c1 => ?_)
  · have h := wt_ip c1 h
    refine wt_iload_n hE wp_tr_leastOf_d80 rfl ?_
    cases h
    exact wt_iret hE hR wp_tr_leastOf_d81
  · have h := wt_in c1 h
    refine wt_iload hE wp_tr_leastOf_d13 rfl ?_
    refine wt_iload_n hE wp_tr_leastOf_d15 rfl ?_
    refine wt_icmp_ne hE 26 wp_tr_leastOf_d16 rfl (fun c2 => ?_) (fun c2 => ?_)
    · have h := wt_in c2 h
      refine wt_aload_n hE wp_tr_leastOf_d26 rfl ?_
      refine wt_getr hE (r := 102) wt_lf_tr_27 (hD 101 (Nat.le_of_ble_eq_true rfl)) wt_L101 rfl wp_tr_leastOf_d27 ?_
      exact wp_tr_leastOf_B30_ok hE hR hD wt_L102 (hD 102 (Nat.le_of_ble_eq_true rfl)) hK6 h
    · have h := wt_ip c2 h
      refine wt_aload_n hE wp_tr_leastOf_d19 rfl ?_
      refine wt_getr hE (r := 104) wt_lf_tr_34 (hD 101 (Nat.le_of_ble_eq_true rfl)) wt_L101 rfl wp_tr_leastOf_d20 ?_
      refine wt_goto hE 30 wp_tr_leastOf_d23 rfl ?_
      exact wp_tr_leastOf_B30_ok hE hR hD wt_L104 (hD 104 (Nat.le_of_ble_eq_true rfl)) hK6 h
noncomputable def wp_tr_leastOf (n : Nat) (x1 : Int32) (x2 : Int32) (σ : wt_St) : Option (Int32 × wt_St) :=
  wt_it (wp_tr_leastOf_B6 n x1 x2) n ((1000000 : Int32), (0 : Int32), σ)
set_option maxRecDepth 100000 in
set_option maxHeartbeats 4000000 in
theorem wp_tr_leastOf_ok {l : Launch} {w : wt_E} {n : Nat} {x1 : Int32} {x2 : Int32} (hD : ∀ i, i < 108 → wt_dom w i) {σ : wt_St} {q : Int32 × wt_St} (h : wp_tr_leastOf n x1 x2 σ = some q) : wt_Ctr l w wt_y_tr_leastOf prog_10_method_9_code 6 (some .int) 1 [.ref (wt_ad w 101), .int x1, .int x2] σ (some q.1) q.2 := by
  refine wt_ctr wt_pl_tr_leastOf rfl (Nat.le_of_ble_eq_true rfl) [some (.ref (wt_ad w 101)), some (.int x1), some (.int x2), none, none, none] rfl ?_
  intro X hXl hXw hE hR
  subst hXl
  subst hXw
  have hE : wt_Ok X prog_10_method_9_code 6 "WornType$Trade" 1 0 := hE
  unfold wp_tr_leastOf at h
  refine wt_ldc hE (1000000 : Int32) wt_lc_tr_117 wp_tr_leastOf_d0 ?_
  refine wt_istore_n hE [some (.ref (wt_ad (wt_xw X) 101)), some (.int x1), some (.int x2), some (.int (1000000 : Int32)), none, none] wp_tr_leastOf_d2 (by decide) rfl ?_
  refine wt_iconst hE (0 : Int32) wp_tr_leastOf_d3 wt_ci_0 ?_
  refine wt_istore hE [some (.ref (wt_ad (wt_xw X) 101)), some (.int x1), some (.int x2), some (.int (1000000 : Int32)), some (.int (0 : Int32)), none] wp_tr_leastOf_d4 (Nat.le_of_ble_eq_true rfl) rfl ?_
  exact wt_it_ind (fun z => wt_V X 0 z.2.2 6 [some (.ref (wt_ad (wt_xw X) 101)), some (.int x1), some (.int x2), some (.int z.1), some (.int z.2.1), none] []) (fun K hK z h => wp_tr_leastOf_B6_ok hE hR hD hK h) n ((1000000 : Int32), (0 : Int32), σ) h
def wb10m0_prog_10_method_8_code_r0 : List (List Nat) := [26, 27, 28, 184, 0, 109, 184, 0, 114, 172] :: []
set_option maxRecDepth 100000 in
theorem wb10m0_prog_10_method_8_code_c0 : wt_cs prog_10_method_8_code 0 wb10m0_prog_10_method_8_code_r0 := wt_cs_of (by decide +kernel)
theorem wp_tr_joined_d0 : decode prog_10_method_8_code 0 = .ok (.iload_n 0, 1) := wt_op26 wb10m0_prog_10_method_8_code_c0 0 rfl rfl
theorem wp_tr_joined_d1 : decode prog_10_method_8_code 1 = .ok (.iload_n 1, 1) := wt_op27 wb10m0_prog_10_method_8_code_c0 1 rfl rfl
theorem wp_tr_joined_d2 : decode prog_10_method_8_code 2 = .ok (.iload_n 2, 1) := wt_op28 wb10m0_prog_10_method_8_code_c0 2 rfl rfl
theorem wp_tr_joined_d3 : decode prog_10_method_8_code 3 = .ok (.invokestatic 109, 3) := wt_op184 wb10m0_prog_10_method_8_code_c0 3 rfl rfl rfl
theorem wp_tr_joined_d6 : decode prog_10_method_8_code 6 = .ok (.invokestatic 114, 3) := wt_op184 wb10m0_prog_10_method_8_code_c0 6 rfl rfl rfl
theorem wp_tr_joined_d9 : decode prog_10_method_8_code 9 = .ok (.ireturn, 1) := wt_op172 wb10m0_prog_10_method_8_code_c0 9 rfl rfl
noncomputable def wp_tr_joined (n : Nat) (x0 : Int32) (x1 : Int32) (x2 : Int32) (σ : wt_St) : Option (Int32 × wt_St) :=
  some ((if x0 < (if x2 < x1 then x2 else x1) then (if x2 < x1 then x2 else x1) else x0), σ)
set_option maxRecDepth 100000 in
set_option maxHeartbeats 4000000 in
theorem wp_tr_joined_ok {l : Launch} {w : wt_E} {n : Nat} {x0 : Int32} {x1 : Int32} {x2 : Int32} {σ : wt_St} {q : Int32 × wt_St} (h : wp_tr_joined n x0 x1 x2 σ = some q) : wt_Ctr l w wt_y_tr_joined prog_10_method_8_code 3 (some .int) 1 [.int x0, .int x1, .int x2] σ (some q.1) q.2 := by
  refine wt_ctr wt_pl_tr_joined rfl (Nat.le_of_ble_eq_true rfl) [some (.int x0), some (.int x1), some (.int x2)] rfl ?_
  intro X hXl hXw hE hR
  subst hXl
  subst hXw
  have hE : wt_Ok X prog_10_method_8_code 3 "WornType$Trade" 1 0 := hE
  unfold wp_tr_joined at h
  refine wt_iload_n hE wp_tr_joined_d0 rfl ?_
  refine wt_iload_n hE wp_tr_joined_d1 rfl ?_
  refine wt_iload_n hE wp_tr_joined_d2 rfl ?_
  refine wt_min hE wt_lm_tr_109 wt_ms_min wt_mi wt_mc_min (by omega) (Nat.zero_le _) (Nat.le_of_ble_eq_true rfl) wp_tr_joined_d3 ?_
  refine wt_max hE wt_lm_tr_114 wt_ms_max wt_mi wt_mc_max (by omega) (Nat.zero_le _) (Nat.le_of_ble_eq_true rfl) wp_tr_joined_d6 ?_
  cases h
  exact wt_iret hE hR wp_tr_joined_d9
def wb10m0_prog_6_method_4_code_r0 : List (List Nat) := [42, 27, 3, 42, 180, 0, 15, 180, 0, 32, 182, 0, 37, 172] :: []
set_option maxRecDepth 100000 in
theorem wb10m0_prog_6_method_4_code_c0 : wt_cs prog_6_method_4_code 0 wb10m0_prog_6_method_4_code_r0 := wt_cs_of (by decide +kernel)
theorem wp_sk_inCase_d0 : decode prog_6_method_4_code 0 = .ok (.aload_n 0, 1) := wt_op42 wb10m0_prog_6_method_4_code_c0 0 rfl rfl
theorem wp_sk_inCase_d1 : decode prog_6_method_4_code 1 = .ok (.iload_n 1, 1) := wt_op27 wb10m0_prog_6_method_4_code_c0 1 rfl rfl
theorem wp_sk_inCase_d2 : decode prog_6_method_4_code 2 = .ok (.iconst 0, 1) := wt_op3 wb10m0_prog_6_method_4_code_c0 2 rfl rfl
theorem wp_sk_inCase_d3 : decode prog_6_method_4_code 3 = .ok (.aload_n 0, 1) := wt_op42 wb10m0_prog_6_method_4_code_c0 3 rfl rfl
theorem wp_sk_inCase_d4 : decode prog_6_method_4_code 4 = .ok (.getfield 15, 3) := wt_op180 wb10m0_prog_6_method_4_code_c0 4 rfl rfl rfl
theorem wp_sk_inCase_d7 : decode prog_6_method_4_code 7 = .ok (.getfield 32, 3) := wt_op180 wb10m0_prog_6_method_4_code_c0 7 rfl rfl rfl
theorem wp_sk_inCase_d10 : decode prog_6_method_4_code 10 = .ok (.invokevirtual 37, 3) := wt_op182 wb10m0_prog_6_method_4_code_c0 10 rfl rfl rfl
theorem wp_sk_inCase_d13 : decode prog_6_method_4_code 13 = .ok (.ireturn, 1) := wt_op172 wb10m0_prog_6_method_4_code_c0 13 rfl rfl
noncomputable def wp_sk_inCase (n : Nat) (x1 : Int32) (σ : wt_St) : Option (Int32 × wt_St) :=
  (wp_sk_ready n 40 x1 (0 : Int32) σ).bind fun q1 =>
  some (q1.1, q1.2)
set_option maxRecDepth 100000 in
set_option maxHeartbeats 4000000 in
theorem wp_sk_inCase_ok {l : Launch} {w : wt_E} {n : Nat} {x1 : Int32} (hD : ∀ i, i < 108 → wt_dom w i) {σ : wt_St} {q : Int32 × wt_St} (h : wp_sk_inCase n x1 σ = some q) : wt_Ctr l w wt_y_sk_inCase prog_6_method_4_code 2 (some .int) 3 [.ref (wt_ad w 76), .int x1] σ (some q.1) q.2 := by
  refine wt_ctr wt_pl_sk_inCase rfl (Nat.le_of_ble_eq_true rfl) [some (.ref (wt_ad w 76)), some (.int x1)] rfl ?_
  intro X hXl hXw hE hR
  subst hXl
  subst hXw
  have hE : wt_Ok X prog_6_method_4_code 2 "WornType$Stock" 3 0 := hE
  unfold wp_sk_inCase at h
  refine wt_aload_n hE wp_sk_inCase_d0 rfl ?_
  refine wt_iload_n hE wp_sk_inCase_d1 rfl ?_
  refine wt_iconst hE (0 : Int32) wp_sk_inCase_d2 wt_ci_0 ?_
  refine wt_aload_n hE wp_sk_inCase_d3 rfl ?_
  refine wt_getr hE (r := 39) wt_lf_sk_15 (hD 76 (Nat.le_of_ble_eq_true rfl)) wt_L76 rfl wp_sk_inCase_d4 ?_
  refine wt_getr hE (r := 40) wt_lf_sk_32 (hD 39 (Nat.le_of_ble_eq_true rfl)) wt_L39 rfl wp_sk_inCase_d7 ?_
  obtain ⟨q1, hq1, h⟩ := wt_bi h
  refine wt_callVi hE [.int x1, .int (0 : Int32), .ref (wt_ad (wt_xw X) 40)] wt_lm_sk_37 wt_ya_sk_ready (wp_sk_ready_ok hD (wt_lnE wt_L40) (hD 40 (Nat.le_of_ble_eq_true rfl)) hq1) (by omega) (hD 76 (Nat.le_of_ble_eq_true rfl)) wt_L76 rfl rfl rfl (Nat.le_of_ble_eq_true rfl) (Nat.zero_le _) wp_sk_inCase_d10 (fun hbq1 => ?_)
  cases h
  exact wt_iret hE hR wp_sk_inCase_d13
def wb10m0_prog_10_method_7_code_r1 : List (List Nat) := [180, 0, 69, 182, 0, 95, 172] :: []
def wb10m0_prog_10_method_7_code_r0 : List (List Nat) := [28, 158, 0, 19, 28, 42, 180, 0, 23, 27, 182, 0, 57, 161, 0, 7, 3, 167, 0, 19, 42, 180, 0, 23, 27, 28, 42, 180, 0, 19] :: wb10m0_prog_10_method_7_code_r1
set_option maxRecDepth 100000 in
theorem wb10m0_prog_10_method_7_code_c0 : wt_cs prog_10_method_7_code 0 wb10m0_prog_10_method_7_code_r0 := wt_cs_of (by decide +kernel)
theorem wb10m0_prog_10_method_7_code_c1 : wt_cs prog_10_method_7_code 30 wb10m0_prog_10_method_7_code_r1 := wt_cs_tl (m := 30) wb10m0_prog_10_method_7_code_c0 rfl rfl
theorem wp_tr_reachWithoutLeast_d0 : decode prog_10_method_7_code 0 = .ok (.iload_n 2, 1) := wt_op28 wb10m0_prog_10_method_7_code_c0 0 rfl rfl
theorem wp_tr_reachWithoutLeast_d1 : decode prog_10_method_7_code 1 = .ok (.ifCond .le 19, 3) := wt_op158 wb10m0_prog_10_method_7_code_c0 1 rfl rfl rfl
theorem wp_tr_reachWithoutLeast_d4 : decode prog_10_method_7_code 4 = .ok (.iload_n 2, 1) := wt_op28 wb10m0_prog_10_method_7_code_c0 4 rfl rfl
theorem wp_tr_reachWithoutLeast_d5 : decode prog_10_method_7_code 5 = .ok (.aload_n 0, 1) := wt_op42 wb10m0_prog_10_method_7_code_c0 5 rfl rfl
theorem wp_tr_reachWithoutLeast_d6 : decode prog_10_method_7_code 6 = .ok (.getfield 23, 3) := wt_op180 wb10m0_prog_10_method_7_code_c0 6 rfl rfl rfl
theorem wp_tr_reachWithoutLeast_d9 : decode prog_10_method_7_code 9 = .ok (.iload_n 1, 1) := wt_op27 wb10m0_prog_10_method_7_code_c0 9 rfl rfl
theorem wp_tr_reachWithoutLeast_d10 : decode prog_10_method_7_code 10 = .ok (.invokevirtual 57, 3) := wt_op182 wb10m0_prog_10_method_7_code_c0 10 rfl rfl rfl
theorem wp_tr_reachWithoutLeast_d13 : decode prog_10_method_7_code 13 = .ok (.if_icmp .lt 7, 3) := wt_op161 wb10m0_prog_10_method_7_code_c0 13 rfl rfl rfl
theorem wp_tr_reachWithoutLeast_d16 : decode prog_10_method_7_code 16 = .ok (.iconst 0, 1) := wt_op3 wb10m0_prog_10_method_7_code_c0 16 rfl rfl
theorem wp_tr_reachWithoutLeast_d17 : decode prog_10_method_7_code 17 = .ok (.goto 19, 3) := wt_op167 wb10m0_prog_10_method_7_code_c0 17 rfl rfl rfl
theorem wp_tr_reachWithoutLeast_d20 : decode prog_10_method_7_code 20 = .ok (.aload_n 0, 1) := wt_op42 wb10m0_prog_10_method_7_code_c0 20 rfl rfl
theorem wp_tr_reachWithoutLeast_d21 : decode prog_10_method_7_code 21 = .ok (.getfield 23, 3) := wt_op180 wb10m0_prog_10_method_7_code_c0 21 rfl rfl rfl
theorem wp_tr_reachWithoutLeast_d24 : decode prog_10_method_7_code 24 = .ok (.iload_n 1, 1) := wt_op27 wb10m0_prog_10_method_7_code_c0 24 rfl rfl
theorem wp_tr_reachWithoutLeast_d25 : decode prog_10_method_7_code 25 = .ok (.iload_n 2, 1) := wt_op28 wb10m0_prog_10_method_7_code_c0 25 rfl rfl
theorem wp_tr_reachWithoutLeast_d26 : decode prog_10_method_7_code 26 = .ok (.aload_n 0, 1) := wt_op42 wb10m0_prog_10_method_7_code_c0 26 rfl rfl
theorem wp_tr_reachWithoutLeast_d27 : decode prog_10_method_7_code 27 = .ok (.getfield 19, 3) := wt_op180 wb10m0_prog_10_method_7_code_c0 27 rfl rfl rfl
theorem wp_tr_reachWithoutLeast_d30 : decode prog_10_method_7_code 30 = .ok (.getfield 69, 3) := wt_op180 wb10m0_prog_10_method_7_code_c1 0 rfl rfl rfl
theorem wp_tr_reachWithoutLeast_d33 : decode prog_10_method_7_code 33 = .ok (.invokevirtual 95, 3) := wt_op182 wb10m0_prog_10_method_7_code_c1 3 rfl rfl rfl
theorem wp_tr_reachWithoutLeast_d36 : decode prog_10_method_7_code 36 = .ok (.ireturn, 1) := wt_op172 wb10m0_prog_10_method_7_code_c1 6 rfl rfl
noncomputable def wp_tr_reachWithoutLeast_B20 (n : Nat) (x1 : Int32) (x2 : Int32) (σ : wt_St) : Option (Int32 × wt_St) :=
  (wp_sk_reach n 40 x1 x2 σ).bind fun q2 =>
  some (q2.1, q2.2)
set_option maxRecDepth 100000 in
set_option maxHeartbeats 4000000 in
theorem wp_tr_reachWithoutLeast_B20_ok  {x1 : Int32} {x2 : Int32} {X : wt_X} {n : Nat} {res : Int32 × wt_St} (hE : wt_Ok X prog_10_method_7_code 3 "WornType$Trade" 4 0) (hR : wt_Rt X (some .int) (some res.1) res.2) (hD : ∀ i, i < 108 → wt_dom (wt_xw X) i)  {σ : wt_St} (h : wp_tr_reachWithoutLeast_B20 n x1 x2 σ = some res) : wt_V X 0 σ 20 [some (.ref (wt_ad (wt_xw X) 101)), some (.int x1), some (.int x2)] [] := by
  unfold wp_tr_reachWithoutLeast_B20 at h
  refine wt_aload_n hE wp_tr_reachWithoutLeast_d20 rfl ?_
  refine wt_getr hE (r := 76) wt_lf_tr_23 (hD 101 (Nat.le_of_ble_eq_true rfl)) wt_L101 rfl wp_tr_reachWithoutLeast_d21 ?_
  refine wt_iload_n hE wp_tr_reachWithoutLeast_d24 rfl ?_
  refine wt_iload_n hE wp_tr_reachWithoutLeast_d25 rfl ?_
  refine wt_aload_n hE wp_tr_reachWithoutLeast_d26 rfl ?_
  refine wt_getr hE (r := 39) wt_lf_tr_19 (hD 101 (Nat.le_of_ble_eq_true rfl)) wt_L101 rfl wp_tr_reachWithoutLeast_d27 ?_
  refine wt_getr hE (r := 40) wt_lf_tr_69 (hD 39 (Nat.le_of_ble_eq_true rfl)) wt_L39 rfl wp_tr_reachWithoutLeast_d30 ?_
  obtain ⟨q2, hq2, h⟩ := wt_bi h
  refine wt_callVi hE [.int x1, .int x2, .ref (wt_ad (wt_xw X) 40)] wt_lm_tr_95 wt_ya_sk_reach (wp_sk_reach_ok hD (wt_lnE wt_L40) (hD 40 (Nat.le_of_ble_eq_true rfl)) hq2) (by omega) (hD 76 (Nat.le_of_ble_eq_true rfl)) wt_L76 rfl rfl rfl (Nat.le_of_ble_eq_true rfl) (Nat.zero_le _) wp_tr_reachWithoutLeast_d33 (fun hbq2 => ?_)
  cases h
  exact wt_iret hE hR wp_tr_reachWithoutLeast_d36
noncomputable def wp_tr_reachWithoutLeast (n : Nat) (x1 : Int32) (x2 : Int32) (σ : wt_St) : Option (Int32 × wt_St) :=
  if x2 ≤ 0 then
    wp_tr_reachWithoutLeast_B20 n x1 x2 σ
  else
    (wp_sk_inCase n x1 σ).bind fun q3 =>
    if x2 < q3.1 then
      wp_tr_reachWithoutLeast_B20 n x1 x2 q3.2
    else
      some ((0 : Int32), q3.2)
set_option maxRecDepth 100000 in
set_option maxHeartbeats 4000000 in
theorem wp_tr_reachWithoutLeast_ok {l : Launch} {w : wt_E} {n : Nat} {x1 : Int32} {x2 : Int32} (hD : ∀ i, i < 108 → wt_dom w i) {σ : wt_St} {q : Int32 × wt_St} (h : wp_tr_reachWithoutLeast n x1 x2 σ = some q) : wt_Ctr l w wt_y_tr_reachWithoutLeast prog_10_method_7_code 3 (some .int) 4 [.ref (wt_ad w 101), .int x1, .int x2] σ (some q.1) q.2 := by
  refine wt_ctr wt_pl_tr_reachWithoutLeast rfl (Nat.le_of_ble_eq_true rfl) [some (.ref (wt_ad w 101)), some (.int x1), some (.int x2)] rfl ?_
  intro X hXl hXw hE hR
  subst hXl
  subst hXw
  have hE : wt_Ok X prog_10_method_7_code 3 "WornType$Trade" 4 0 := hE
  unfold wp_tr_reachWithoutLeast at h
  refine wt_iload_n hE wp_tr_reachWithoutLeast_d0 rfl ?_
  refine wt_if_le hE 20 wp_tr_reachWithoutLeast_d1 rfl (fun c1 => ?_) (fun c1 => ?_)
  · have h := wt_ip c1 h
    exact wp_tr_reachWithoutLeast_B20_ok hE hR hD h
  · have h := wt_in c1 h
    refine wt_iload_n hE wp_tr_reachWithoutLeast_d4 rfl ?_
    refine wt_aload_n hE wp_tr_reachWithoutLeast_d5 rfl ?_
    refine wt_getr hE (r := 76) wt_lf_tr_23 (hD 101 (Nat.le_of_ble_eq_true rfl)) wt_L101 rfl wp_tr_reachWithoutLeast_d6 ?_
    refine wt_iload_n hE wp_tr_reachWithoutLeast_d9 rfl ?_
    obtain ⟨q3, hq3, h⟩ := wt_bi h
    refine wt_callVi hE [.int x1] wt_lm_tr_57 wt_ya_sk_inCase (wp_sk_inCase_ok hD hq3) (by omega) (hD 76 (Nat.le_of_ble_eq_true rfl)) wt_L76 rfl rfl rfl (Nat.le_of_ble_eq_true rfl) (Nat.zero_le _) wp_tr_reachWithoutLeast_d10 (fun hbq3 => ?_)
    refine wt_icmp_lt hE 20 wp_tr_reachWithoutLeast_d13 rfl (fun c4 => ?_) (fun c4 => ?_)
    · have h := wt_ip c4 h
      exact wp_tr_reachWithoutLeast_B20_ok hE hR hD h
    · have h := wt_in c4 h
      refine wt_iconst hE (0 : Int32) wp_tr_reachWithoutLeast_d16 wt_ci_0 ?_
      refine wt_goto hE 36 wp_tr_reachWithoutLeast_d17 rfl ?_
      cases h
      exact wt_iret hE hR wp_tr_reachWithoutLeast_d36
def wb10m0_prog_10_method_6_code_r4 : List (List Nat) := [177] :: []
def wb10m0_prog_10_method_6_code_r3 : List (List Nat) := [29, 184, 0, 105, 184, 0, 101, 42, 180, 0, 37, 28, 21, 6, 42, 28, 21, 4, 4, 100, 182, 0, 98, 29, 184, 0, 105, 184, 0, 101] :: wb10m0_prog_10_method_6_code_r4
def wb10m0_prog_10_method_6_code_r2 : List (List Nat) := [184, 0, 101, 42, 180, 0, 34, 28, 21, 5, 42, 180, 0, 23, 28, 21, 4, 4, 100, 42, 180, 0, 19, 180, 0, 69, 182, 0, 95] :: wb10m0_prog_10_method_6_code_r3
def wb10m0_prog_10_method_6_code_r1 : List (List Nat) := [54, 5, 42, 28, 21, 4, 182, 0, 98, 54, 6, 42, 180, 0, 27, 28, 21, 5, 184, 0, 101, 42, 180, 0, 31, 28, 21, 6] :: wb10m0_prog_10_method_6_code_r2
def wb10m0_prog_10_method_6_code_r0 : List (List Nat) := [42, 180, 0, 15, 27, 28, 182, 0, 92, 54, 4, 42, 180, 0, 23, 28, 21, 4, 42, 180, 0, 19, 180, 0, 69, 182, 0, 95] :: wb10m0_prog_10_method_6_code_r1
set_option maxRecDepth 100000 in
theorem wb10m0_prog_10_method_6_code_c0 : wt_cs prog_10_method_6_code 0 wb10m0_prog_10_method_6_code_r0 := wt_cs_of (by decide +kernel)
theorem wb10m0_prog_10_method_6_code_c1 : wt_cs prog_10_method_6_code 28 wb10m0_prog_10_method_6_code_r1 := wt_cs_tl (m := 28) wb10m0_prog_10_method_6_code_c0 rfl rfl
theorem wb10m0_prog_10_method_6_code_c2 : wt_cs prog_10_method_6_code 56 wb10m0_prog_10_method_6_code_r2 := wt_cs_tl (m := 28) wb10m0_prog_10_method_6_code_c1 rfl rfl
theorem wb10m0_prog_10_method_6_code_c3 : wt_cs prog_10_method_6_code 85 wb10m0_prog_10_method_6_code_r3 := wt_cs_tl (m := 29) wb10m0_prog_10_method_6_code_c2 rfl rfl
theorem wb10m0_prog_10_method_6_code_c4 : wt_cs prog_10_method_6_code 115 wb10m0_prog_10_method_6_code_r4 := wt_cs_tl (m := 30) wb10m0_prog_10_method_6_code_c3 rfl rfl
theorem wp_tr_weigh_d0 : decode prog_10_method_6_code 0 = .ok (.aload_n 0, 1) := wt_op42 wb10m0_prog_10_method_6_code_c0 0 rfl rfl
theorem wp_tr_weigh_d1 : decode prog_10_method_6_code 1 = .ok (.getfield 15, 3) := wt_op180 wb10m0_prog_10_method_6_code_c0 1 rfl rfl rfl
theorem wp_tr_weigh_d4 : decode prog_10_method_6_code 4 = .ok (.iload_n 1, 1) := wt_op27 wb10m0_prog_10_method_6_code_c0 4 rfl rfl
theorem wp_tr_weigh_d5 : decode prog_10_method_6_code 5 = .ok (.iload_n 2, 1) := wt_op28 wb10m0_prog_10_method_6_code_c0 5 rfl rfl
theorem wp_tr_weigh_d6 : decode prog_10_method_6_code 6 = .ok (.invokevirtual 92, 3) := wt_op182 wb10m0_prog_10_method_6_code_c0 6 rfl rfl rfl
theorem wp_tr_weigh_d9 : decode prog_10_method_6_code 9 = .ok (.istore 4, 2) := wt_op54 wb10m0_prog_10_method_6_code_c0 9 rfl rfl
theorem wp_tr_weigh_d11 : decode prog_10_method_6_code 11 = .ok (.aload_n 0, 1) := wt_op42 wb10m0_prog_10_method_6_code_c0 11 rfl rfl
theorem wp_tr_weigh_d12 : decode prog_10_method_6_code 12 = .ok (.getfield 23, 3) := wt_op180 wb10m0_prog_10_method_6_code_c0 12 rfl rfl rfl
theorem wp_tr_weigh_d15 : decode prog_10_method_6_code 15 = .ok (.iload_n 2, 1) := wt_op28 wb10m0_prog_10_method_6_code_c0 15 rfl rfl
theorem wp_tr_weigh_d16 : decode prog_10_method_6_code 16 = .ok (.iload 4, 2) := wt_op21 wb10m0_prog_10_method_6_code_c0 16 rfl rfl
theorem wp_tr_weigh_d18 : decode prog_10_method_6_code 18 = .ok (.aload_n 0, 1) := wt_op42 wb10m0_prog_10_method_6_code_c0 18 rfl rfl
theorem wp_tr_weigh_d19 : decode prog_10_method_6_code 19 = .ok (.getfield 19, 3) := wt_op180 wb10m0_prog_10_method_6_code_c0 19 rfl rfl rfl
theorem wp_tr_weigh_d22 : decode prog_10_method_6_code 22 = .ok (.getfield 69, 3) := wt_op180 wb10m0_prog_10_method_6_code_c0 22 rfl rfl rfl
theorem wp_tr_weigh_d25 : decode prog_10_method_6_code 25 = .ok (.invokevirtual 95, 3) := wt_op182 wb10m0_prog_10_method_6_code_c0 25 rfl rfl rfl
theorem wp_tr_weigh_d28 : decode prog_10_method_6_code 28 = .ok (.istore 5, 2) := wt_op54 wb10m0_prog_10_method_6_code_c1 0 rfl rfl
theorem wp_tr_weigh_d30 : decode prog_10_method_6_code 30 = .ok (.aload_n 0, 1) := wt_op42 wb10m0_prog_10_method_6_code_c1 2 rfl rfl
theorem wp_tr_weigh_d31 : decode prog_10_method_6_code 31 = .ok (.iload_n 2, 1) := wt_op28 wb10m0_prog_10_method_6_code_c1 3 rfl rfl
theorem wp_tr_weigh_d32 : decode prog_10_method_6_code 32 = .ok (.iload 4, 2) := wt_op21 wb10m0_prog_10_method_6_code_c1 4 rfl rfl
theorem wp_tr_weigh_d34 : decode prog_10_method_6_code 34 = .ok (.invokevirtual 98, 3) := wt_op182 wb10m0_prog_10_method_6_code_c1 6 rfl rfl rfl
theorem wp_tr_weigh_d37 : decode prog_10_method_6_code 37 = .ok (.istore 6, 2) := wt_op54 wb10m0_prog_10_method_6_code_c1 9 rfl rfl
theorem wp_tr_weigh_d39 : decode prog_10_method_6_code 39 = .ok (.aload_n 0, 1) := wt_op42 wb10m0_prog_10_method_6_code_c1 11 rfl rfl
theorem wp_tr_weigh_d40 : decode prog_10_method_6_code 40 = .ok (.getfield 27, 3) := wt_op180 wb10m0_prog_10_method_6_code_c1 12 rfl rfl rfl
theorem wp_tr_weigh_d43 : decode prog_10_method_6_code 43 = .ok (.iload_n 2, 1) := wt_op28 wb10m0_prog_10_method_6_code_c1 15 rfl rfl
theorem wp_tr_weigh_d44 : decode prog_10_method_6_code 44 = .ok (.iload 5, 2) := wt_op21 wb10m0_prog_10_method_6_code_c1 16 rfl rfl
theorem wp_tr_weigh_d46 : decode prog_10_method_6_code 46 = .ok (.invokestatic 101, 3) := wt_op184 wb10m0_prog_10_method_6_code_c1 18 rfl rfl rfl
theorem wp_tr_weigh_d49 : decode prog_10_method_6_code 49 = .ok (.aload_n 0, 1) := wt_op42 wb10m0_prog_10_method_6_code_c1 21 rfl rfl
theorem wp_tr_weigh_d50 : decode prog_10_method_6_code 50 = .ok (.getfield 31, 3) := wt_op180 wb10m0_prog_10_method_6_code_c1 22 rfl rfl rfl
theorem wp_tr_weigh_d53 : decode prog_10_method_6_code 53 = .ok (.iload_n 2, 1) := wt_op28 wb10m0_prog_10_method_6_code_c1 25 rfl rfl
theorem wp_tr_weigh_d54 : decode prog_10_method_6_code 54 = .ok (.iload 6, 2) := wt_op21 wb10m0_prog_10_method_6_code_c1 26 rfl rfl
theorem wp_tr_weigh_d56 : decode prog_10_method_6_code 56 = .ok (.invokestatic 101, 3) := wt_op184 wb10m0_prog_10_method_6_code_c2 0 rfl rfl rfl
theorem wp_tr_weigh_d59 : decode prog_10_method_6_code 59 = .ok (.aload_n 0, 1) := wt_op42 wb10m0_prog_10_method_6_code_c2 3 rfl rfl
theorem wp_tr_weigh_d60 : decode prog_10_method_6_code 60 = .ok (.getfield 34, 3) := wt_op180 wb10m0_prog_10_method_6_code_c2 4 rfl rfl rfl
theorem wp_tr_weigh_d63 : decode prog_10_method_6_code 63 = .ok (.iload_n 2, 1) := wt_op28 wb10m0_prog_10_method_6_code_c2 7 rfl rfl
theorem wp_tr_weigh_d64 : decode prog_10_method_6_code 64 = .ok (.iload 5, 2) := wt_op21 wb10m0_prog_10_method_6_code_c2 8 rfl rfl
theorem wp_tr_weigh_d66 : decode prog_10_method_6_code 66 = .ok (.aload_n 0, 1) := wt_op42 wb10m0_prog_10_method_6_code_c2 10 rfl rfl
theorem wp_tr_weigh_d67 : decode prog_10_method_6_code 67 = .ok (.getfield 23, 3) := wt_op180 wb10m0_prog_10_method_6_code_c2 11 rfl rfl rfl
theorem wp_tr_weigh_d70 : decode prog_10_method_6_code 70 = .ok (.iload_n 2, 1) := wt_op28 wb10m0_prog_10_method_6_code_c2 14 rfl rfl
theorem wp_tr_weigh_d71 : decode prog_10_method_6_code 71 = .ok (.iload 4, 2) := wt_op21 wb10m0_prog_10_method_6_code_c2 15 rfl rfl
theorem wp_tr_weigh_d73 : decode prog_10_method_6_code 73 = .ok (.iconst 1, 1) := wt_op4 wb10m0_prog_10_method_6_code_c2 17 rfl rfl
theorem wp_tr_weigh_d74 : decode prog_10_method_6_code 74 = .ok (.isub, 1) := wt_op100 wb10m0_prog_10_method_6_code_c2 18 rfl rfl
theorem wp_tr_weigh_d75 : decode prog_10_method_6_code 75 = .ok (.aload_n 0, 1) := wt_op42 wb10m0_prog_10_method_6_code_c2 19 rfl rfl
theorem wp_tr_weigh_d76 : decode prog_10_method_6_code 76 = .ok (.getfield 19, 3) := wt_op180 wb10m0_prog_10_method_6_code_c2 20 rfl rfl rfl
theorem wp_tr_weigh_d79 : decode prog_10_method_6_code 79 = .ok (.getfield 69, 3) := wt_op180 wb10m0_prog_10_method_6_code_c2 23 rfl rfl rfl
theorem wp_tr_weigh_d82 : decode prog_10_method_6_code 82 = .ok (.invokevirtual 95, 3) := wt_op182 wb10m0_prog_10_method_6_code_c2 26 rfl rfl rfl
theorem wp_tr_weigh_d85 : decode prog_10_method_6_code 85 = .ok (.iload_n 3, 1) := wt_op29 wb10m0_prog_10_method_6_code_c3 0 rfl rfl
theorem wp_tr_weigh_d86 : decode prog_10_method_6_code 86 = .ok (.invokestatic 105, 3) := wt_op184 wb10m0_prog_10_method_6_code_c3 1 rfl rfl rfl
theorem wp_tr_weigh_d89 : decode prog_10_method_6_code 89 = .ok (.invokestatic 101, 3) := wt_op184 wb10m0_prog_10_method_6_code_c3 4 rfl rfl rfl
theorem wp_tr_weigh_d92 : decode prog_10_method_6_code 92 = .ok (.aload_n 0, 1) := wt_op42 wb10m0_prog_10_method_6_code_c3 7 rfl rfl
theorem wp_tr_weigh_d93 : decode prog_10_method_6_code 93 = .ok (.getfield 37, 3) := wt_op180 wb10m0_prog_10_method_6_code_c3 8 rfl rfl rfl
theorem wp_tr_weigh_d96 : decode prog_10_method_6_code 96 = .ok (.iload_n 2, 1) := wt_op28 wb10m0_prog_10_method_6_code_c3 11 rfl rfl
theorem wp_tr_weigh_d97 : decode prog_10_method_6_code 97 = .ok (.iload 6, 2) := wt_op21 wb10m0_prog_10_method_6_code_c3 12 rfl rfl
theorem wp_tr_weigh_d99 : decode prog_10_method_6_code 99 = .ok (.aload_n 0, 1) := wt_op42 wb10m0_prog_10_method_6_code_c3 14 rfl rfl
theorem wp_tr_weigh_d100 : decode prog_10_method_6_code 100 = .ok (.iload_n 2, 1) := wt_op28 wb10m0_prog_10_method_6_code_c3 15 rfl rfl
theorem wp_tr_weigh_d101 : decode prog_10_method_6_code 101 = .ok (.iload 4, 2) := wt_op21 wb10m0_prog_10_method_6_code_c3 16 rfl rfl
theorem wp_tr_weigh_d103 : decode prog_10_method_6_code 103 = .ok (.iconst 1, 1) := wt_op4 wb10m0_prog_10_method_6_code_c3 18 rfl rfl
theorem wp_tr_weigh_d104 : decode prog_10_method_6_code 104 = .ok (.isub, 1) := wt_op100 wb10m0_prog_10_method_6_code_c3 19 rfl rfl
theorem wp_tr_weigh_d105 : decode prog_10_method_6_code 105 = .ok (.invokevirtual 98, 3) := wt_op182 wb10m0_prog_10_method_6_code_c3 20 rfl rfl rfl
theorem wp_tr_weigh_d108 : decode prog_10_method_6_code 108 = .ok (.iload_n 3, 1) := wt_op29 wb10m0_prog_10_method_6_code_c3 23 rfl rfl
theorem wp_tr_weigh_d109 : decode prog_10_method_6_code 109 = .ok (.invokestatic 105, 3) := wt_op184 wb10m0_prog_10_method_6_code_c3 24 rfl rfl rfl
theorem wp_tr_weigh_d112 : decode prog_10_method_6_code 112 = .ok (.invokestatic 101, 3) := wt_op184 wb10m0_prog_10_method_6_code_c3 27 rfl rfl rfl
theorem wp_tr_weigh_d115 : decode prog_10_method_6_code 115 = .ok (.return_, 1) := wt_op177 wb10m0_prog_10_method_6_code_c4 0 rfl rfl
noncomputable def wp_tr_weigh (n : Nat) (x1 : Int32) (x2 : Int32) (x3 : Int32) (σ : wt_St) : Option (wt_St) :=
  (wp_tx_needOf n x1 x2 σ).bind fun q1 =>
  (wp_sk_reach n 40 x2 q1.1 q1.2).bind fun q2 =>
  (wp_tr_reachWithoutLeast n x2 q1.1 q2.2).bind fun q3 =>
  (wp_ap_put n 102 x2 q2.1 q3.2).bind fun q4 =>
  (wp_ap_put n 103 x2 q3.1 q4).bind fun q5 =>
  (wp_sk_reach n 40 x2 (q1.1 - (1 : Int32)) q5).bind fun q6 =>
  (wp_tr_joined n q2.1 q6.1 x3 q6.2).bind fun q7 =>
  (wp_ap_put n 104 x2 q7.1 q7.2).bind fun q8 =>
  (wp_tr_reachWithoutLeast n x2 (q1.1 - (1 : Int32)) q8).bind fun q9 =>
  (wp_tr_joined n q3.1 q9.1 x3 q9.2).bind fun q10 =>
  (wp_ap_put n 105 x2 q10.1 q10.2).bind fun q11 =>
  some q11
set_option maxRecDepth 100000 in
set_option maxHeartbeats 4000000 in
theorem wp_tr_weigh_ok {l : Launch} {w : wt_E} {n : Nat} {x1 : Int32} {x2 : Int32} {x3 : Int32} (hD : ∀ i, i < 108 → wt_dom w i) {σ : wt_St} {q : wt_St} (h : wp_tr_weigh n x1 x2 x3 σ = some q) : wt_Ctr l w wt_y_tr_weigh prog_10_method_6_code 7 none 5 [.ref (wt_ad w 101), .int x1, .int x2, .int x3] σ none q := by
  refine wt_ctr wt_pl_tr_weigh rfl (Nat.le_of_ble_eq_true rfl) [some (.ref (wt_ad w 101)), some (.int x1), some (.int x2), some (.int x3), none, none, none] rfl ?_
  intro X hXl hXw hE hR
  subst hXl
  subst hXw
  have hE : wt_Ok X prog_10_method_6_code 7 "WornType$Trade" 5 0 := hE
  unfold wp_tr_weigh at h
  refine wt_aload_n hE wp_tr_weigh_d0 rfl ?_
  refine wt_getr hE (r := 34) wt_lf_tr_15 (hD 101 (Nat.le_of_ble_eq_true rfl)) wt_L101 rfl wp_tr_weigh_d1 ?_
  refine wt_iload_n hE wp_tr_weigh_d4 rfl ?_
  refine wt_iload_n hE wp_tr_weigh_d5 rfl ?_
  obtain ⟨q1, hq1, h⟩ := wt_bi h
  refine wt_callVi hE [.int x1, .int x2] wt_lm_tr_92 wt_ya_tx_needOf (wp_tx_needOf_ok hD hq1) (by omega) (hD 34 (Nat.le_of_ble_eq_true rfl)) wt_L34 rfl rfl rfl (Nat.le_of_ble_eq_true rfl) (Nat.zero_le _) wp_tr_weigh_d6 (fun hbq1 => ?_)
  refine wt_istore hE [some (.ref (wt_ad (wt_xw X) 101)), some (.int x1), some (.int x2), some (.int x3), some (.int q1.1), none, none] wp_tr_weigh_d9 (Nat.le_of_ble_eq_true rfl) rfl ?_
  refine wt_aload_n hE wp_tr_weigh_d11 rfl ?_
  refine wt_getr hE (r := 76) wt_lf_tr_23 (hD 101 (Nat.le_of_ble_eq_true rfl)) wt_L101 rfl wp_tr_weigh_d12 ?_
  refine wt_iload_n hE wp_tr_weigh_d15 rfl ?_
  refine wt_iload hE wp_tr_weigh_d16 rfl ?_
  refine wt_aload_n hE wp_tr_weigh_d18 rfl ?_
  refine wt_getr hE (r := 39) wt_lf_tr_19 (hD 101 (Nat.le_of_ble_eq_true rfl)) wt_L101 rfl wp_tr_weigh_d19 ?_
  refine wt_getr hE (r := 40) wt_lf_tr_69 (hD 39 (Nat.le_of_ble_eq_true rfl)) wt_L39 rfl wp_tr_weigh_d22 ?_
  obtain ⟨q2, hq2, h⟩ := wt_bi h
  refine wt_callVi hE [.int x2, .int q1.1, .ref (wt_ad (wt_xw X) 40)] wt_lm_tr_95 wt_ya_sk_reach (wp_sk_reach_ok hD (wt_lnE wt_L40) (hD 40 (Nat.le_of_ble_eq_true rfl)) hq2) (by omega) (hD 76 (Nat.le_of_ble_eq_true rfl)) wt_L76 rfl rfl rfl (Nat.le_of_ble_eq_true rfl) (Nat.zero_le _) wp_tr_weigh_d25 (fun hbq2 => ?_)
  refine wt_istore hE [some (.ref (wt_ad (wt_xw X) 101)), some (.int x1), some (.int x2), some (.int x3), some (.int q1.1), some (.int q2.1), none] wp_tr_weigh_d28 (Nat.le_of_ble_eq_true rfl) rfl ?_
  refine wt_aload_n hE wp_tr_weigh_d30 rfl ?_
  refine wt_iload_n hE wp_tr_weigh_d31 rfl ?_
  refine wt_iload hE wp_tr_weigh_d32 rfl ?_
  obtain ⟨q3, hq3, h⟩ := wt_bi h
  refine wt_callVi hE [.int x2, .int q1.1] wt_lm_tr_98 wt_ya_tr_reachWithoutLeast (wp_tr_reachWithoutLeast_ok hD hq3) (by omega) (hD 101 (Nat.le_of_ble_eq_true rfl)) wt_L101 rfl rfl rfl (Nat.le_of_ble_eq_true rfl) (Nat.zero_le _) wp_tr_weigh_d34 (fun hbq3 => ?_)
  refine wt_istore hE [some (.ref (wt_ad (wt_xw X) 101)), some (.int x1), some (.int x2), some (.int x3), some (.int q1.1), some (.int q2.1), some (.int q3.1)] wp_tr_weigh_d37 (Nat.le_of_ble_eq_true rfl) rfl ?_
  refine wt_aload_n hE wp_tr_weigh_d39 rfl ?_
  refine wt_getr hE (r := 102) wt_lf_tr_27 (hD 101 (Nat.le_of_ble_eq_true rfl)) wt_L101 rfl wp_tr_weigh_d40 ?_
  refine wt_iload_n hE wp_tr_weigh_d43 rfl ?_
  refine wt_iload hE wp_tr_weigh_d44 rfl ?_
  obtain ⟨q4, hq4, h⟩ := wt_bi h
  refine wt_callSv hE [.ref (wt_ad (wt_xw X) 102), .int x2, .int q2.1] wt_lm_tr_101 wt_ya_ap_put (wp_ap_put_ok (wt_lnE wt_L102) (hD 102 (Nat.le_of_ble_eq_true rfl)) hq4) (by omega) rfl rfl (Nat.le_of_ble_eq_true rfl) (Nat.zero_le _) wp_tr_weigh_d46 ?_
  refine wt_aload_n hE wp_tr_weigh_d49 rfl ?_
  refine wt_getr hE (r := 103) wt_lf_tr_31 (hD 101 (Nat.le_of_ble_eq_true rfl)) wt_L101 rfl wp_tr_weigh_d50 ?_
  refine wt_iload_n hE wp_tr_weigh_d53 rfl ?_
  refine wt_iload hE wp_tr_weigh_d54 rfl ?_
  obtain ⟨q5, hq5, h⟩ := wt_bi h
  refine wt_callSv hE [.ref (wt_ad (wt_xw X) 103), .int x2, .int q3.1] wt_lm_tr_101 wt_ya_ap_put (wp_ap_put_ok (wt_lnE wt_L103) (hD 103 (Nat.le_of_ble_eq_true rfl)) hq5) (by omega) rfl rfl (Nat.le_of_ble_eq_true rfl) (Nat.zero_le _) wp_tr_weigh_d56 ?_
  refine wt_aload_n hE wp_tr_weigh_d59 rfl ?_
  refine wt_getr hE (r := 104) wt_lf_tr_34 (hD 101 (Nat.le_of_ble_eq_true rfl)) wt_L101 rfl wp_tr_weigh_d60 ?_
  refine wt_iload_n hE wp_tr_weigh_d63 rfl ?_
  refine wt_iload hE wp_tr_weigh_d64 rfl ?_
  refine wt_aload_n hE wp_tr_weigh_d66 rfl ?_
  refine wt_getr hE (r := 76) wt_lf_tr_23 (hD 101 (Nat.le_of_ble_eq_true rfl)) wt_L101 rfl wp_tr_weigh_d67 ?_
  refine wt_iload_n hE wp_tr_weigh_d70 rfl ?_
  refine wt_iload hE wp_tr_weigh_d71 rfl ?_
  refine wt_iconst hE (1 : Int32) wp_tr_weigh_d73 wt_ci_1 ?_
  refine wt_isub hE wp_tr_weigh_d74 ?_
  refine wt_aload_n hE wp_tr_weigh_d75 rfl ?_
  refine wt_getr hE (r := 39) wt_lf_tr_19 (hD 101 (Nat.le_of_ble_eq_true rfl)) wt_L101 rfl wp_tr_weigh_d76 ?_
  refine wt_getr hE (r := 40) wt_lf_tr_69 (hD 39 (Nat.le_of_ble_eq_true rfl)) wt_L39 rfl wp_tr_weigh_d79 ?_
  obtain ⟨q6, hq6, h⟩ := wt_bi h
  refine wt_callVi hE [.int x2, .int (q1.1 - (1 : Int32)), .ref (wt_ad (wt_xw X) 40)] wt_lm_tr_95 wt_ya_sk_reach (wp_sk_reach_ok hD (wt_lnE wt_L40) (hD 40 (Nat.le_of_ble_eq_true rfl)) hq6) (by omega) (hD 76 (Nat.le_of_ble_eq_true rfl)) wt_L76 rfl rfl rfl (Nat.le_of_ble_eq_true rfl) (Nat.zero_le _) wp_tr_weigh_d82 (fun hbq6 => ?_)
  refine wt_iload_n hE wp_tr_weigh_d85 rfl ?_
  obtain ⟨q7, hq7, h⟩ := wt_bi h
  refine wt_callSi hE [.int q2.1, .int q6.1, .int x3] wt_lm_tr_105 wt_ya_tr_joined (wp_tr_joined_ok hq7) (by omega) rfl rfl (Nat.le_of_ble_eq_true rfl) (Nat.zero_le _) wp_tr_weigh_d86 (fun hbq7 => ?_)
  obtain ⟨q8, hq8, h⟩ := wt_bi h
  refine wt_callSv hE [.ref (wt_ad (wt_xw X) 104), .int x2, .int q7.1] wt_lm_tr_101 wt_ya_ap_put (wp_ap_put_ok (wt_lnE wt_L104) (hD 104 (Nat.le_of_ble_eq_true rfl)) hq8) (by omega) rfl rfl (Nat.le_of_ble_eq_true rfl) (Nat.zero_le _) wp_tr_weigh_d89 ?_
  refine wt_aload_n hE wp_tr_weigh_d92 rfl ?_
  refine wt_getr hE (r := 105) wt_lf_tr_37 (hD 101 (Nat.le_of_ble_eq_true rfl)) wt_L101 rfl wp_tr_weigh_d93 ?_
  refine wt_iload_n hE wp_tr_weigh_d96 rfl ?_
  refine wt_iload hE wp_tr_weigh_d97 rfl ?_
  refine wt_aload_n hE wp_tr_weigh_d99 rfl ?_
  refine wt_iload_n hE wp_tr_weigh_d100 rfl ?_
  refine wt_iload hE wp_tr_weigh_d101 rfl ?_
  refine wt_iconst hE (1 : Int32) wp_tr_weigh_d103 wt_ci_1 ?_
  refine wt_isub hE wp_tr_weigh_d104 ?_
  obtain ⟨q9, hq9, h⟩ := wt_bi h
  refine wt_callVi hE [.int x2, .int (q1.1 - (1 : Int32))] wt_lm_tr_98 wt_ya_tr_reachWithoutLeast (wp_tr_reachWithoutLeast_ok hD hq9) (by omega) (hD 101 (Nat.le_of_ble_eq_true rfl)) wt_L101 rfl rfl rfl (Nat.le_of_ble_eq_true rfl) (Nat.zero_le _) wp_tr_weigh_d105 (fun hbq9 => ?_)
  refine wt_iload_n hE wp_tr_weigh_d108 rfl ?_
  obtain ⟨q10, hq10, h⟩ := wt_bi h
  refine wt_callSi hE [.int q3.1, .int q9.1, .int x3] wt_lm_tr_105 wt_ya_tr_joined (wp_tr_joined_ok hq10) (by omega) rfl rfl (Nat.le_of_ble_eq_true rfl) (Nat.zero_le _) wp_tr_weigh_d109 (fun hbq10 => ?_)
  obtain ⟨q11, hq11, h⟩ := wt_bi h
  refine wt_callSv hE [.ref (wt_ad (wt_xw X) 105), .int x2, .int q10.1] wt_lm_tr_101 wt_ya_ap_put (wp_ap_put_ok (wt_lnE wt_L105) (hD 105 (Nat.le_of_ble_eq_true rfl)) hq11) (by omega) rfl rfl (Nat.le_of_ble_eq_true rfl) (Nat.zero_le _) wp_tr_weigh_d112 ?_
  cases h
  exact wt_vret hE hR wp_tr_weigh_d115
def wb10m0_prog_10_method_3_code_r2 : List (List Nat) := [21, 6, 62, 21, 5, 54, 4, 132, 5, 1, 167, 255, 224, 21, 4, 172] :: []
def wb10m0_prog_10_method_3_code_r1 : List (List Nat) := [2, 54, 4, 3, 54, 5, 21, 5, 16, 26, 162, 0, 31, 42, 2, 21, 5, 182, 0, 53, 54, 6, 21, 6, 29, 164, 0, 10] :: wb10m0_prog_10_method_3_code_r2
def wb10m0_prog_10_method_3_code_r0 : List (List Nat) := [3, 62, 29, 16, 26, 162, 0, 16, 42, 27, 29, 28, 182, 0, 49, 132, 3, 1, 167, 255, 240, 42, 2, 2, 182, 0, 53, 62] :: wb10m0_prog_10_method_3_code_r1
set_option maxRecDepth 100000 in
theorem wb10m0_prog_10_method_3_code_c0 : wt_cs prog_10_method_3_code 0 wb10m0_prog_10_method_3_code_r0 := wt_cs_of (by decide +kernel)
theorem wb10m0_prog_10_method_3_code_c1 : wt_cs prog_10_method_3_code 28 wb10m0_prog_10_method_3_code_r1 := wt_cs_tl (m := 28) wb10m0_prog_10_method_3_code_c0 rfl rfl
theorem wb10m0_prog_10_method_3_code_c2 : wt_cs prog_10_method_3_code 56 wb10m0_prog_10_method_3_code_r2 := wt_cs_tl (m := 28) wb10m0_prog_10_method_3_code_c1 rfl rfl
theorem wp_tr_bestCast_d0 : decode prog_10_method_3_code 0 = .ok (.iconst 0, 1) := wt_op3 wb10m0_prog_10_method_3_code_c0 0 rfl rfl
theorem wp_tr_bestCast_d1 : decode prog_10_method_3_code 1 = .ok (.istore_n 3, 1) := wt_op62 wb10m0_prog_10_method_3_code_c0 1 rfl rfl
theorem wp_tr_bestCast_d2 : decode prog_10_method_3_code 2 = .ok (.iload_n 3, 1) := wt_op29 wb10m0_prog_10_method_3_code_c0 2 rfl rfl
theorem wp_tr_bestCast_d3 : decode prog_10_method_3_code 3 = .ok (.bipush 26, 2) := wt_op16 wb10m0_prog_10_method_3_code_c0 3 rfl rfl rfl
theorem wp_tr_bestCast_d5 : decode prog_10_method_3_code 5 = .ok (.if_icmp .ge 16, 3) := wt_op162 wb10m0_prog_10_method_3_code_c0 5 rfl rfl rfl
theorem wp_tr_bestCast_d8 : decode prog_10_method_3_code 8 = .ok (.aload_n 0, 1) := wt_op42 wb10m0_prog_10_method_3_code_c0 8 rfl rfl
theorem wp_tr_bestCast_d9 : decode prog_10_method_3_code 9 = .ok (.iload_n 1, 1) := wt_op27 wb10m0_prog_10_method_3_code_c0 9 rfl rfl
theorem wp_tr_bestCast_d10 : decode prog_10_method_3_code 10 = .ok (.iload_n 3, 1) := wt_op29 wb10m0_prog_10_method_3_code_c0 10 rfl rfl
theorem wp_tr_bestCast_d11 : decode prog_10_method_3_code 11 = .ok (.iload_n 2, 1) := wt_op28 wb10m0_prog_10_method_3_code_c0 11 rfl rfl
theorem wp_tr_bestCast_d12 : decode prog_10_method_3_code 12 = .ok (.invokevirtual 49, 3) := wt_op182 wb10m0_prog_10_method_3_code_c0 12 rfl rfl rfl
theorem wp_tr_bestCast_d15 : decode prog_10_method_3_code 15 = .ok (.iinc 3 1, 3) := wt_op132 wb10m0_prog_10_method_3_code_c0 15 rfl rfl rfl
theorem wp_tr_bestCast_d18 : decode prog_10_method_3_code 18 = .ok (.goto (-16), 3) := wt_op167 wb10m0_prog_10_method_3_code_c0 18 rfl rfl rfl
theorem wp_tr_bestCast_d21 : decode prog_10_method_3_code 21 = .ok (.aload_n 0, 1) := wt_op42 wb10m0_prog_10_method_3_code_c0 21 rfl rfl
theorem wp_tr_bestCast_d22 : decode prog_10_method_3_code 22 = .ok (.iconst (-1), 1) := wt_op2 wb10m0_prog_10_method_3_code_c0 22 rfl rfl
theorem wp_tr_bestCast_d23 : decode prog_10_method_3_code 23 = .ok (.iconst (-1), 1) := wt_op2 wb10m0_prog_10_method_3_code_c0 23 rfl rfl
theorem wp_tr_bestCast_d24 : decode prog_10_method_3_code 24 = .ok (.invokevirtual 53, 3) := wt_op182 wb10m0_prog_10_method_3_code_c0 24 rfl rfl rfl
theorem wp_tr_bestCast_d27 : decode prog_10_method_3_code 27 = .ok (.istore_n 3, 1) := wt_op62 wb10m0_prog_10_method_3_code_c0 27 rfl rfl
theorem wp_tr_bestCast_d28 : decode prog_10_method_3_code 28 = .ok (.iconst (-1), 1) := wt_op2 wb10m0_prog_10_method_3_code_c1 0 rfl rfl
theorem wp_tr_bestCast_d29 : decode prog_10_method_3_code 29 = .ok (.istore 4, 2) := wt_op54 wb10m0_prog_10_method_3_code_c1 1 rfl rfl
theorem wp_tr_bestCast_d31 : decode prog_10_method_3_code 31 = .ok (.iconst 0, 1) := wt_op3 wb10m0_prog_10_method_3_code_c1 3 rfl rfl
theorem wp_tr_bestCast_d32 : decode prog_10_method_3_code 32 = .ok (.istore 5, 2) := wt_op54 wb10m0_prog_10_method_3_code_c1 4 rfl rfl
theorem wp_tr_bestCast_d34 : decode prog_10_method_3_code 34 = .ok (.iload 5, 2) := wt_op21 wb10m0_prog_10_method_3_code_c1 6 rfl rfl
theorem wp_tr_bestCast_d36 : decode prog_10_method_3_code 36 = .ok (.bipush 26, 2) := wt_op16 wb10m0_prog_10_method_3_code_c1 8 rfl rfl rfl
theorem wp_tr_bestCast_d38 : decode prog_10_method_3_code 38 = .ok (.if_icmp .ge 31, 3) := wt_op162 wb10m0_prog_10_method_3_code_c1 10 rfl rfl rfl
theorem wp_tr_bestCast_d41 : decode prog_10_method_3_code 41 = .ok (.aload_n 0, 1) := wt_op42 wb10m0_prog_10_method_3_code_c1 13 rfl rfl
theorem wp_tr_bestCast_d42 : decode prog_10_method_3_code 42 = .ok (.iconst (-1), 1) := wt_op2 wb10m0_prog_10_method_3_code_c1 14 rfl rfl
theorem wp_tr_bestCast_d43 : decode prog_10_method_3_code 43 = .ok (.iload 5, 2) := wt_op21 wb10m0_prog_10_method_3_code_c1 15 rfl rfl
theorem wp_tr_bestCast_d45 : decode prog_10_method_3_code 45 = .ok (.invokevirtual 53, 3) := wt_op182 wb10m0_prog_10_method_3_code_c1 17 rfl rfl rfl
theorem wp_tr_bestCast_d48 : decode prog_10_method_3_code 48 = .ok (.istore 6, 2) := wt_op54 wb10m0_prog_10_method_3_code_c1 20 rfl rfl
theorem wp_tr_bestCast_d50 : decode prog_10_method_3_code 50 = .ok (.iload 6, 2) := wt_op21 wb10m0_prog_10_method_3_code_c1 22 rfl rfl
theorem wp_tr_bestCast_d52 : decode prog_10_method_3_code 52 = .ok (.iload_n 3, 1) := wt_op29 wb10m0_prog_10_method_3_code_c1 24 rfl rfl
theorem wp_tr_bestCast_d53 : decode prog_10_method_3_code 53 = .ok (.if_icmp .le 10, 3) := wt_op164 wb10m0_prog_10_method_3_code_c1 25 rfl rfl rfl
theorem wp_tr_bestCast_d56 : decode prog_10_method_3_code 56 = .ok (.iload 6, 2) := wt_op21 wb10m0_prog_10_method_3_code_c2 0 rfl rfl
theorem wp_tr_bestCast_d58 : decode prog_10_method_3_code 58 = .ok (.istore_n 3, 1) := wt_op62 wb10m0_prog_10_method_3_code_c2 2 rfl rfl
theorem wp_tr_bestCast_d59 : decode prog_10_method_3_code 59 = .ok (.iload 5, 2) := wt_op21 wb10m0_prog_10_method_3_code_c2 3 rfl rfl
theorem wp_tr_bestCast_d61 : decode prog_10_method_3_code 61 = .ok (.istore 4, 2) := wt_op54 wb10m0_prog_10_method_3_code_c2 5 rfl rfl
theorem wp_tr_bestCast_d63 : decode prog_10_method_3_code 63 = .ok (.iinc 5 1, 3) := wt_op132 wb10m0_prog_10_method_3_code_c2 7 rfl rfl rfl
theorem wp_tr_bestCast_d66 : decode prog_10_method_3_code 66 = .ok (.goto (-32), 3) := wt_op167 wb10m0_prog_10_method_3_code_c2 10 rfl rfl rfl
theorem wp_tr_bestCast_d69 : decode prog_10_method_3_code 69 = .ok (.iload 4, 2) := wt_op21 wb10m0_prog_10_method_3_code_c2 13 rfl rfl
theorem wp_tr_bestCast_d71 : decode prog_10_method_3_code 71 = .ok (.ireturn, 1) := wt_op172 wb10m0_prog_10_method_3_code_c2 15 rfl rfl
noncomputable def wp_tr_bestCast_B63 (n : Nat) (x3 : Int32) (x4 : Int32) (x5 : Int32) (K34 : Int32 × Int32 × Int32 × wt_St → Option (Int32 × wt_St)) (σ : wt_St) : Option (Int32 × wt_St) :=
  K34 (x3, x4, (x5 + (1 : Int32)), σ)
set_option maxRecDepth 100000 in
set_option maxHeartbeats 4000000 in
theorem wp_tr_bestCast_B63_ok  {x3 : Int32} {x4 : Int32} {x5 : Int32} {X : wt_X} {n : Nat} {res : Int32 × wt_St} (hE : wt_Ok X prog_10_method_3_code 7 "WornType$Trade" 6 0) (hR : wt_Rt X (some .int) (some res.1) res.2) (hD : ∀ i, i < 108 → wt_dom (wt_xw X) i)  {K34 : Int32 × Int32 × Int32 × wt_St → Option (Int32 × wt_St)} (hK34 : ∀ s : Int32 × Int32 × Int32 × wt_St, K34 s = some res → wt_V X 0 s.2.2.2 34 [some (.ref (wt_ad (wt_xw X) 101)), none, none, some (.int s.1), some (.int s.2.1), some (.int s.2.2.1), none] []) {σ : wt_St} (h : wp_tr_bestCast_B63 n x3 x4 x5 K34 σ = some res) : wt_V X 0 σ 63 [some (.ref (wt_ad (wt_xw X) 101)), none, none, some (.int x3), some (.int x4), some (.int x5), none] [] := by
  unfold wp_tr_bestCast_B63 at h
  refine wt_iinc hE (x5 + (1 : Int32)) [some (.ref (wt_ad (wt_xw X) 101)), none, none, some (.int x3), some (.int x4), some (.int (x5 + (1 : Int32))), none] wp_tr_bestCast_d63 (by decide) rfl rfl rfl ?_
  refine wt_goto hE 34 wp_tr_bestCast_d66 rfl ?_
  exact hK34 (x3, x4, (x5 + (1 : Int32)), σ) h
noncomputable def wp_tr_bestCast_B34 (n : Nat) (K34 : Int32 × Int32 × Int32 × wt_St → Option (Int32 × wt_St)) (s : Int32 × Int32 × Int32 × wt_St) : Option (Int32 × wt_St) :=
  if (26 : Int32) ≤ s.2.2.1 then
    some (s.2.1, s.2.2.2)
  else
    (wp_tr_leastOf n (-1 : Int32) s.2.2.1 s.2.2.2).bind fun q4 =>
    if q4.1 ≤ s.1 then
      wp_tr_bestCast_B63 n s.1 s.2.1 s.2.2.1 K34 q4.2
    else
      wp_tr_bestCast_B63 n q4.1 s.2.2.1 s.2.2.1 K34 q4.2
set_option maxRecDepth 100000 in
set_option maxHeartbeats 4000000 in
theorem wp_tr_bestCast_B34_ok  {X : wt_X} {n : Nat} {res : Int32 × wt_St} (hE : wt_Ok X prog_10_method_3_code 7 "WornType$Trade" 6 0) (hR : wt_Rt X (some .int) (some res.1) res.2) (hD : ∀ i, i < 108 → wt_dom (wt_xw X) i)  {K34 : Int32 × Int32 × Int32 × wt_St → Option (Int32 × wt_St)} (hK34 : ∀ s : Int32 × Int32 × Int32 × wt_St, K34 s = some res → wt_V X 0 s.2.2.2 34 [some (.ref (wt_ad (wt_xw X) 101)), none, none, some (.int s.1), some (.int s.2.1), some (.int s.2.2.1), none] []) {s : Int32 × Int32 × Int32 × wt_St} (h : wp_tr_bestCast_B34 n K34 s = some res) : wt_V X 0 s.2.2.2 34 [some (.ref (wt_ad (wt_xw X) 101)), none, none, some (.int s.1), some (.int s.2.1), some (.int s.2.2.1), none] [] := by
  unfold wp_tr_bestCast_B34 at h
  refine wt_iload hE wp_tr_bestCast_d34 rfl ?_
  refine wt_bipush hE (26 : Int32) wp_tr_bestCast_d36 wt_cb_26 ?_
  refine wt_icmp_ge hE 69 wp_tr_bestCast_d38 rfl (fun c3 => ?_) (fun c3 => ?_)
  · have h := wt_ip c3 h
    refine wt_iload hE wp_tr_bestCast_d69 rfl ?_
    cases h
    exact wt_iret hE hR wp_tr_bestCast_d71
  · have h := wt_in c3 h
    refine wt_aload_n hE wp_tr_bestCast_d41 rfl ?_
    refine wt_iconst hE (-1 : Int32) wp_tr_bestCast_d42 wt_ci_m1 ?_
    refine wt_iload hE wp_tr_bestCast_d43 rfl ?_
    obtain ⟨q4, hq4, h⟩ := wt_bi h
    refine wt_callVi hE [.int (-1 : Int32), .int s.2.2.1] wt_lm_tr_53 wt_ya_tr_leastOf (wp_tr_leastOf_ok hD hq4) (by omega) (hD 101 (Nat.le_of_ble_eq_true rfl)) wt_L101 rfl rfl rfl (Nat.le_of_ble_eq_true rfl) (Nat.zero_le _) wp_tr_bestCast_d45 (fun hbq4 => ?_)
    refine wt_istore hE [some (.ref (wt_ad (wt_xw X) 101)), none, none, some (.int s.1), some (.int s.2.1), some (.int s.2.2.1), some (.int q4.1)] wp_tr_bestCast_d48 (Nat.le_of_ble_eq_true rfl) rfl ?_
    refine wt_iload hE wp_tr_bestCast_d50 rfl ?_
    refine wt_iload_n hE wp_tr_bestCast_d52 rfl ?_
    refine wt_icmp_le hE 63 wp_tr_bestCast_d53 rfl (fun c5 => ?_) (fun c5 => ?_)
    · have h := wt_ip c5 h
      refine wt_wk [true, true, true, true, true, true, false] rfl ?_
      exact wp_tr_bestCast_B63_ok hE hR hD hK34 h
    · have h := wt_in c5 h
      refine wt_iload hE wp_tr_bestCast_d56 rfl ?_
      refine wt_istore_n hE [some (.ref (wt_ad (wt_xw X) 101)), none, none, some (.int q4.1), some (.int s.2.1), some (.int s.2.2.1), some (.int q4.1)] wp_tr_bestCast_d58 (by decide) rfl ?_
      refine wt_iload hE wp_tr_bestCast_d59 rfl ?_
      refine wt_istore hE [some (.ref (wt_ad (wt_xw X) 101)), none, none, some (.int q4.1), some (.int s.2.2.1), some (.int s.2.2.1), some (.int q4.1)] wp_tr_bestCast_d61 (Nat.le_of_ble_eq_true rfl) rfl ?_
      refine wt_wk [true, true, true, true, true, true, false] rfl ?_
      exact wp_tr_bestCast_B63_ok hE hR hD hK34 h
noncomputable def wp_tr_bestCast_B2 (n : Nat) (x1 : Int32) (x2 : Int32) (K2 : Int32 × wt_St → Option (Int32 × wt_St)) (s : Int32 × wt_St) : Option (Int32 × wt_St) :=
  if (26 : Int32) ≤ s.1 then
    (wp_tr_leastOf n (-1 : Int32) (-1 : Int32) s.2).bind fun q2 =>
    wt_it (wp_tr_bestCast_B34 n) n (q2.1, (-1 : Int32), (0 : Int32), q2.2)
  else
    (wp_tr_weigh n x1 s.1 x2 s.2).bind fun q6 =>
    K2 ((s.1 + (1 : Int32)), q6)
set_option maxRecDepth 100000 in
set_option maxHeartbeats 4000000 in
theorem wp_tr_bestCast_B2_ok  {x1 : Int32} {x2 : Int32} {X : wt_X} {n : Nat} {res : Int32 × wt_St} (hE : wt_Ok X prog_10_method_3_code 7 "WornType$Trade" 6 0) (hR : wt_Rt X (some .int) (some res.1) res.2) (hD : ∀ i, i < 108 → wt_dom (wt_xw X) i)  {K2 : Int32 × wt_St → Option (Int32 × wt_St)} (hK2 : ∀ s : Int32 × wt_St, K2 s = some res → wt_V X 0 s.2 2 [some (.ref (wt_ad (wt_xw X) 101)), some (.int x1), some (.int x2), some (.int s.1), none, none, none] []) {s : Int32 × wt_St} (h : wp_tr_bestCast_B2 n x1 x2 K2 s = some res) : wt_V X 0 s.2 2 [some (.ref (wt_ad (wt_xw X) 101)), some (.int x1), some (.int x2), some (.int s.1), none, none, none] [] := by
  unfold wp_tr_bestCast_B2 at h
  refine wt_iload_n hE wp_tr_bestCast_d2 rfl ?_
  refine wt_bipush hE (26 : Int32) wp_tr_bestCast_d3 wt_cb_26 ?_
  refine wt_icmp_ge hE 21 wp_tr_bestCast_d5 rfl (fun c1 => ?_) (fun c1 => ?_)
  · have h := wt_ip c1 h
    refine wt_aload_n hE wp_tr_bestCast_d21 rfl ?_
    refine wt_iconst hE (-1 : Int32) wp_tr_bestCast_d22 wt_ci_m1 ?_
    refine wt_iconst hE (-1 : Int32) wp_tr_bestCast_d23 wt_ci_m1 ?_
    obtain ⟨q2, hq2, h⟩ := wt_bi h
    refine wt_callVi hE [.int (-1 : Int32), .int (-1 : Int32)] wt_lm_tr_53 wt_ya_tr_leastOf (wp_tr_leastOf_ok hD hq2) (by omega) (hD 101 (Nat.le_of_ble_eq_true rfl)) wt_L101 rfl rfl rfl (Nat.le_of_ble_eq_true rfl) (Nat.zero_le _) wp_tr_bestCast_d24 (fun hbq2 => ?_)
    refine wt_istore_n hE [some (.ref (wt_ad (wt_xw X) 101)), some (.int x1), some (.int x2), some (.int q2.1), none, none, none] wp_tr_bestCast_d27 (by decide) rfl ?_
    refine wt_iconst hE (-1 : Int32) wp_tr_bestCast_d28 wt_ci_m1 ?_
    refine wt_istore hE [some (.ref (wt_ad (wt_xw X) 101)), some (.int x1), some (.int x2), some (.int q2.1), some (.int (-1 : Int32)), none, none] wp_tr_bestCast_d29 (Nat.le_of_ble_eq_true rfl) rfl ?_
    refine wt_iconst hE (0 : Int32) wp_tr_bestCast_d31 wt_ci_0 ?_
    refine wt_istore hE [some (.ref (wt_ad (wt_xw X) 101)), some (.int x1), some (.int x2), some (.int q2.1), some (.int (-1 : Int32)), some (.int (0 : Int32)), none] wp_tr_bestCast_d32 (Nat.le_of_ble_eq_true rfl) rfl ?_
    refine wt_wk [true, false, false, true, true, true, true] rfl ?_
    exact wt_it_ind (fun z => wt_V X 0 z.2.2.2 34 [some (.ref (wt_ad (wt_xw X) 101)), none, none, some (.int z.1), some (.int z.2.1), some (.int z.2.2.1), none] []) (fun K hK z h => wp_tr_bestCast_B34_ok hE hR hD hK h) n (q2.1, (-1 : Int32), (0 : Int32), q2.2) h
  · have h := wt_in c1 h
    refine wt_aload_n hE wp_tr_bestCast_d8 rfl ?_
    refine wt_iload_n hE wp_tr_bestCast_d9 rfl ?_
    refine wt_iload_n hE wp_tr_bestCast_d10 rfl ?_
    refine wt_iload_n hE wp_tr_bestCast_d11 rfl ?_
    obtain ⟨q6, hq6, h⟩ := wt_bi h
    refine wt_callVv hE [.int x1, .int s.1, .int x2] wt_lm_tr_49 wt_ya_tr_weigh (wp_tr_weigh_ok hD hq6) (by omega) (hD 101 (Nat.le_of_ble_eq_true rfl)) wt_L101 rfl rfl rfl (Nat.le_of_ble_eq_true rfl) (Nat.zero_le _) wp_tr_bestCast_d12 ?_
    refine wt_iinc hE (s.1 + (1 : Int32)) [some (.ref (wt_ad (wt_xw X) 101)), some (.int x1), some (.int x2), some (.int (s.1 + (1 : Int32))), none, none, none] wp_tr_bestCast_d15 (by decide) rfl rfl rfl ?_
    refine wt_goto hE 2 wp_tr_bestCast_d18 rfl ?_
    exact hK2 ((s.1 + (1 : Int32)), q6) h
noncomputable def wp_tr_bestCast (n : Nat) (x1 : Int32) (x2 : Int32) (σ : wt_St) : Option (Int32 × wt_St) :=
  wt_it (wp_tr_bestCast_B2 n x1 x2) n ((0 : Int32), σ)
set_option maxRecDepth 100000 in
set_option maxHeartbeats 4000000 in
theorem wp_tr_bestCast_ok {l : Launch} {w : wt_E} {n : Nat} {x1 : Int32} {x2 : Int32} (hD : ∀ i, i < 108 → wt_dom w i) {σ : wt_St} {q : Int32 × wt_St} (h : wp_tr_bestCast n x1 x2 σ = some q) : wt_Ctr l w wt_y_tr_bestCast prog_10_method_3_code 7 (some .int) 6 [.ref (wt_ad w 101), .int x1, .int x2] σ (some q.1) q.2 := by
  refine wt_ctr wt_pl_tr_bestCast rfl (Nat.le_of_ble_eq_true rfl) [some (.ref (wt_ad w 101)), some (.int x1), some (.int x2), none, none, none, none] rfl ?_
  intro X hXl hXw hE hR
  subst hXl
  subst hXw
  have hE : wt_Ok X prog_10_method_3_code 7 "WornType$Trade" 6 0 := hE
  unfold wp_tr_bestCast at h
  refine wt_iconst hE (0 : Int32) wp_tr_bestCast_d0 wt_ci_0 ?_
  refine wt_istore_n hE [some (.ref (wt_ad (wt_xw X) 101)), some (.int x1), some (.int x2), some (.int (0 : Int32)), none, none, none] wp_tr_bestCast_d1 (by decide) rfl ?_
  exact wt_it_ind (fun z => wt_V X 0 z.2 2 [some (.ref (wt_ad (wt_xw X) 101)), some (.int x1), some (.int x2), some (.int z.1), none, none, none] []) (fun K hK z h => wp_tr_bestCast_B2_ok hE hR hD hK h) n ((0 : Int32), σ) h
def wb10m0_prog_1_method_44_code_r0 : List (List Nat) := [3, 61, 28, 42, 190, 162, 0, 21, 28, 43, 190, 162, 0, 15, 43, 28, 42, 28, 46, 79, 132, 2, 1, 167, 255, 235, 177] :: []
set_option maxRecDepth 100000 in
theorem wb10m0_prog_1_method_44_code_c0 : wt_cs prog_1_method_44_code 0 wb10m0_prog_1_method_44_code_r0 := wt_cs_of (by decide +kernel)
theorem wp_ap_copyRow_d0 : decode prog_1_method_44_code 0 = .ok (.iconst 0, 1) := wt_op3 wb10m0_prog_1_method_44_code_c0 0 rfl rfl
theorem wp_ap_copyRow_d1 : decode prog_1_method_44_code 1 = .ok (.istore_n 2, 1) := wt_op61 wb10m0_prog_1_method_44_code_c0 1 rfl rfl
theorem wp_ap_copyRow_d2 : decode prog_1_method_44_code 2 = .ok (.iload_n 2, 1) := wt_op28 wb10m0_prog_1_method_44_code_c0 2 rfl rfl
theorem wp_ap_copyRow_d3 : decode prog_1_method_44_code 3 = .ok (.aload_n 0, 1) := wt_op42 wb10m0_prog_1_method_44_code_c0 3 rfl rfl
theorem wp_ap_copyRow_d4 : decode prog_1_method_44_code 4 = .ok (.arraylength, 1) := wt_op190 wb10m0_prog_1_method_44_code_c0 4 rfl rfl
theorem wp_ap_copyRow_d5 : decode prog_1_method_44_code 5 = .ok (.if_icmp .ge 21, 3) := wt_op162 wb10m0_prog_1_method_44_code_c0 5 rfl rfl rfl
theorem wp_ap_copyRow_d8 : decode prog_1_method_44_code 8 = .ok (.iload_n 2, 1) := wt_op28 wb10m0_prog_1_method_44_code_c0 8 rfl rfl
theorem wp_ap_copyRow_d9 : decode prog_1_method_44_code 9 = .ok (.aload_n 1, 1) := wt_op43 wb10m0_prog_1_method_44_code_c0 9 rfl rfl
theorem wp_ap_copyRow_d10 : decode prog_1_method_44_code 10 = .ok (.arraylength, 1) := wt_op190 wb10m0_prog_1_method_44_code_c0 10 rfl rfl
theorem wp_ap_copyRow_d11 : decode prog_1_method_44_code 11 = .ok (.if_icmp .ge 15, 3) := wt_op162 wb10m0_prog_1_method_44_code_c0 11 rfl rfl rfl
theorem wp_ap_copyRow_d14 : decode prog_1_method_44_code 14 = .ok (.aload_n 1, 1) := wt_op43 wb10m0_prog_1_method_44_code_c0 14 rfl rfl
theorem wp_ap_copyRow_d15 : decode prog_1_method_44_code 15 = .ok (.iload_n 2, 1) := wt_op28 wb10m0_prog_1_method_44_code_c0 15 rfl rfl
theorem wp_ap_copyRow_d16 : decode prog_1_method_44_code 16 = .ok (.aload_n 0, 1) := wt_op42 wb10m0_prog_1_method_44_code_c0 16 rfl rfl
theorem wp_ap_copyRow_d17 : decode prog_1_method_44_code 17 = .ok (.iload_n 2, 1) := wt_op28 wb10m0_prog_1_method_44_code_c0 17 rfl rfl
theorem wp_ap_copyRow_d18 : decode prog_1_method_44_code 18 = .ok (.iaload, 1) := wt_op46 wb10m0_prog_1_method_44_code_c0 18 rfl rfl
theorem wp_ap_copyRow_d19 : decode prog_1_method_44_code 19 = .ok (.iastore, 1) := wt_op79 wb10m0_prog_1_method_44_code_c0 19 rfl rfl
theorem wp_ap_copyRow_d20 : decode prog_1_method_44_code 20 = .ok (.iinc 2 1, 3) := wt_op132 wb10m0_prog_1_method_44_code_c0 20 rfl rfl rfl
theorem wp_ap_copyRow_d23 : decode prog_1_method_44_code 23 = .ok (.goto (-21), 3) := wt_op167 wb10m0_prog_1_method_44_code_c0 23 rfl rfl rfl
theorem wp_ap_copyRow_d26 : decode prog_1_method_44_code 26 = .ok (.return_, 1) := wt_op177 wb10m0_prog_1_method_44_code_c0 26 rfl rfl
noncomputable def wp_ap_copyRow_B2 (n : Nat) (a0 : Nat) (a1 : Nat) (K2 : Int32 × wt_St → Option (wt_St)) (s : Int32 × wt_St) : Option (wt_St) :=
  if (nI (wt_ln a0)) ≤ s.1 then
    some s.2
  else
    if (nI (wt_ln a1)) ≤ s.1 then
      some s.2
    else
      if s.1 < 0 ∨ (wt_ln a0) ≤ Int32.toNatClampNeg s.1 then none else
      if s.1 < 0 ∨ (wt_ln a1) ≤ Int32.toNatClampNeg s.1 then none else
      K2 ((s.1 + (1 : Int32)), (wt_sa s.2 a1 (Int32.toNatClampNeg s.1) (wt_ga s.2 a0 (Int32.toNatClampNeg s.1))))
set_option maxRecDepth 100000 in
set_option maxHeartbeats 4000000 in
theorem wp_ap_copyRow_B2_ok  {a0 : Nat} {a1 : Nat} {X : wt_X} {n : Nat} {res : wt_St} (hE : wt_Ok X prog_1_method_44_code 3 "WornType" 0 0) (hR : wt_Rt X none none res) (hA_a0 : wt_LAY[a0]? = some (0, wt_ln a0, [])) (hd_a0 : wt_dom (wt_xw X) a0) (hA_a1 : wt_LAY[a1]? = some (0, wt_ln a1, [])) (hd_a1 : wt_dom (wt_xw X) a1) {K2 : Int32 × wt_St → Option (wt_St)} (hK2 : ∀ s : Int32 × wt_St, K2 s = some res → wt_V X 0 s.2 2 [some (.ref (wt_ad (wt_xw X) a0)), some (.ref (wt_ad (wt_xw X) a1)), some (.int s.1)] []) {s : Int32 × wt_St} (h : wp_ap_copyRow_B2 n a0 a1 K2 s = some res) : wt_V X 0 s.2 2 [some (.ref (wt_ad (wt_xw X) a0)), some (.ref (wt_ad (wt_xw X) a1)), some (.int s.1)] [] := by
  unfold wp_ap_copyRow_B2 at h
  refine wt_iload_n hE wp_ap_copyRow_d2 rfl ?_
  refine wt_aload_n hE wp_ap_copyRow_d3 rfl ?_
  refine wt_alen hE (nI (wt_ln a0)) hd_a0 hA_a0 rfl wp_ap_copyRow_d4 ?_
  refine wt_icmp_ge hE 26 wp_ap_copyRow_d5 rfl (fun c1 => ?_) (fun c1 => ?_)
  · have h := wt_ip c1 h
    cases h
    exact wt_vret hE hR wp_ap_copyRow_d26
  · have h := wt_in c1 h
    refine wt_iload_n hE wp_ap_copyRow_d8 rfl ?_
    refine wt_aload_n hE wp_ap_copyRow_d9 rfl ?_
    refine wt_alen hE (nI (wt_ln a1)) hd_a1 hA_a1 rfl wp_ap_copyRow_d10 ?_
    refine wt_icmp_ge hE 26 wp_ap_copyRow_d11 rfl (fun c2 => ?_) (fun c2 => ?_)
    · have h := wt_ip c2 h
      cases h
      exact wt_vret hE hR wp_ap_copyRow_d26
    · have h := wt_in c2 h
      refine wt_aload_n hE wp_ap_copyRow_d14 rfl ?_
      refine wt_iload_n hE wp_ap_copyRow_d15 rfl ?_
      refine wt_aload_n hE wp_ap_copyRow_d16 rfl ?_
      refine wt_iload_n hE wp_ap_copyRow_d17 rfl ?_
      obtain ⟨g3, h⟩ := wt_gd h
      refine wt_iald hE hd_a0 hA_a0 g3 wp_ap_copyRow_d18 ?_
      obtain ⟨g4, h⟩ := wt_gd h
      refine wt_iast hE hd_a1 hA_a1 g4 wp_ap_copyRow_d19 ?_
      refine wt_iinc hE (s.1 + (1 : Int32)) [some (.ref (wt_ad (wt_xw X) a0)), some (.ref (wt_ad (wt_xw X) a1)), some (.int (s.1 + (1 : Int32)))] wp_ap_copyRow_d20 (by decide) rfl rfl rfl ?_
      refine wt_goto hE 2 wp_ap_copyRow_d23 rfl ?_
      exact hK2 ((s.1 + (1 : Int32)), (wt_sa s.2 a1 (Int32.toNatClampNeg s.1) (wt_ga s.2 a0 (Int32.toNatClampNeg s.1)))) h
noncomputable def wp_ap_copyRow (n : Nat) (a0 : Nat) (a1 : Nat) (σ : wt_St) : Option (wt_St) :=
  wt_it (wp_ap_copyRow_B2 n a0 a1) n ((0 : Int32), σ)
set_option maxRecDepth 100000 in
set_option maxHeartbeats 4000000 in
theorem wp_ap_copyRow_ok {l : Launch} {w : wt_E} {n : Nat} {a0 : Nat} {a1 : Nat} (hA_a0 : wt_LAY[a0]? = some (0, wt_ln a0, [])) (hd_a0 : wt_dom w a0) (hA_a1 : wt_LAY[a1]? = some (0, wt_ln a1, [])) (hd_a1 : wt_dom w a1) {σ : wt_St} {q : wt_St} (h : wp_ap_copyRow n a0 a1 σ = some q) : wt_Ctr l w wt_y_ap_copyRow prog_1_method_44_code 3 none 0 [.ref (wt_ad w a0), .ref (wt_ad w a1)] σ none q := by
  refine wt_ctr wt_pl_ap_copyRow rfl (Nat.le_of_ble_eq_true rfl) [some (.ref (wt_ad w a0)), some (.ref (wt_ad w a1)), none] rfl ?_
  intro X hXl hXw hE hR
  subst hXl
  subst hXw
  have hE : wt_Ok X prog_1_method_44_code 3 "WornType" 0 0 := hE
  unfold wp_ap_copyRow at h
  refine wt_iconst hE (0 : Int32) wp_ap_copyRow_d0 wt_ci_0 ?_
  refine wt_istore_n hE [some (.ref (wt_ad (wt_xw X) a0)), some (.ref (wt_ad (wt_xw X) a1)), some (.int (0 : Int32))] wp_ap_copyRow_d1 (by decide) rfl ?_
  exact wt_it_ind (fun z => wt_V X 0 z.2 2 [some (.ref (wt_ad (wt_xw X) a0)), some (.ref (wt_ad (wt_xw X) a1)), some (.int z.1)] []) (fun K hK z h => wp_ap_copyRow_B2_ok hE hR hA_a0 hd_a0 hA_a1 hd_a1 hK h) n ((0 : Int32), σ) h
def wb10m0_prog_1_method_37_code_r0 : List (List Nat) := [27, 154, 0, 8, 42, 180, 0, 101, 172, 27, 4, 160, 0, 13, 42, 180, 0, 12, 180, 0, 105, 167, 0, 4, 2, 172] :: []
set_option maxRecDepth 100000 in
theorem wb10m0_prog_1_method_37_code_c0 : wt_cs prog_1_method_37_code 0 wb10m0_prog_1_method_37_code_r0 := wt_cs_of (by decide +kernel)
theorem wp_ap_count_d0 : decode prog_1_method_37_code 0 = .ok (.iload_n 1, 1) := wt_op27 wb10m0_prog_1_method_37_code_c0 0 rfl rfl
theorem wp_ap_count_d1 : decode prog_1_method_37_code 1 = .ok (.ifCond .ne 8, 3) := wt_op154 wb10m0_prog_1_method_37_code_c0 1 rfl rfl rfl
theorem wp_ap_count_d4 : decode prog_1_method_37_code 4 = .ok (.aload_n 0, 1) := wt_op42 wb10m0_prog_1_method_37_code_c0 4 rfl rfl
theorem wp_ap_count_d5 : decode prog_1_method_37_code 5 = .ok (.getfield 101, 3) := wt_op180 wb10m0_prog_1_method_37_code_c0 5 rfl rfl rfl
theorem wp_ap_count_d8 : decode prog_1_method_37_code 8 = .ok (.ireturn, 1) := wt_op172 wb10m0_prog_1_method_37_code_c0 8 rfl rfl
theorem wp_ap_count_d9 : decode prog_1_method_37_code 9 = .ok (.iload_n 1, 1) := wt_op27 wb10m0_prog_1_method_37_code_c0 9 rfl rfl
theorem wp_ap_count_d10 : decode prog_1_method_37_code 10 = .ok (.iconst 1, 1) := wt_op4 wb10m0_prog_1_method_37_code_c0 10 rfl rfl
theorem wp_ap_count_d11 : decode prog_1_method_37_code 11 = .ok (.if_icmp .ne 13, 3) := wt_op160 wb10m0_prog_1_method_37_code_c0 11 rfl rfl rfl
theorem wp_ap_count_d14 : decode prog_1_method_37_code 14 = .ok (.aload_n 0, 1) := wt_op42 wb10m0_prog_1_method_37_code_c0 14 rfl rfl
theorem wp_ap_count_d15 : decode prog_1_method_37_code 15 = .ok (.getfield 12, 3) := wt_op180 wb10m0_prog_1_method_37_code_c0 15 rfl rfl rfl
theorem wp_ap_count_d18 : decode prog_1_method_37_code 18 = .ok (.getfield 105, 3) := wt_op180 wb10m0_prog_1_method_37_code_c0 18 rfl rfl rfl
theorem wp_ap_count_d21 : decode prog_1_method_37_code 21 = .ok (.goto 4, 3) := wt_op167 wb10m0_prog_1_method_37_code_c0 21 rfl rfl rfl
theorem wp_ap_count_d24 : decode prog_1_method_37_code 24 = .ok (.iconst (-1), 1) := wt_op2 wb10m0_prog_1_method_37_code_c0 24 rfl rfl
theorem wp_ap_count_d25 : decode prog_1_method_37_code 25 = .ok (.ireturn, 1) := wt_op172 wb10m0_prog_1_method_37_code_c0 25 rfl rfl
noncomputable def wp_ap_count (n : Nat) (x1 : Int32) (σ : wt_St) : Option (Int32 × wt_St) :=
  if x1 = 0 then
    some ((wt_gf σ 0 14), σ)
  else
    if x1 = (1 : Int32) then
      some ((wt_gf σ 1 2), σ)
    else
      some ((-1 : Int32), σ)
set_option maxRecDepth 100000 in
set_option maxHeartbeats 4000000 in
theorem wp_ap_count_ok {l : Launch} {w : wt_E} {n : Nat} {x1 : Int32} (hD : ∀ i, i < 108 → wt_dom w i) {σ : wt_St} {q : Int32 × wt_St} (h : wp_ap_count n x1 σ = some q) : wt_Ctr l w wt_y_ap_count prog_1_method_37_code 2 (some .int) 0 [.ref (wt_ad w 0), .int x1] σ (some q.1) q.2 := by
  refine wt_ctr wt_pl_ap_count rfl (Nat.le_of_ble_eq_true rfl) [some (.ref (wt_ad w 0)), some (.int x1)] rfl ?_
  intro X hXl hXw hE hR
  subst hXl
  subst hXw
  have hE : wt_Ok X prog_1_method_37_code 2 "WornType" 0 0 := hE
  unfold wp_ap_count at h
  refine wt_iload_n hE wp_ap_count_d0 rfl ?_
  refine wt_if_ne hE 9 wp_ap_count_d1 rfl (fun c1 => ?_) (fun c1 => ?_)
  · have h := wt_in c1 h
    refine wt_iload_n hE wp_ap_count_d9 rfl ?_
    refine wt_iconst hE (1 : Int32) wp_ap_count_d10 wt_ci_1 ?_
    refine wt_icmp_ne hE 24 wp_ap_count_d11 rfl (fun c2 => ?_) (fun c2 => ?_)
    · have h := wt_in c2 h
      refine wt_iconst hE (-1 : Int32) wp_ap_count_d24 wt_ci_m1 ?_
      cases h
      exact wt_iret hE hR wp_ap_count_d25
    · have h := wt_ip c2 h
      refine wt_aload_n hE wp_ap_count_d14 rfl ?_
      refine wt_getr hE (r := 1) wt_lf_ap_12 (hD 0 (Nat.le_of_ble_eq_true rfl)) wt_L0 rfl wp_ap_count_d15 ?_
      refine wt_geti hE wt_lf_ap_105 (hD 1 (Nat.le_of_ble_eq_true rfl)) wt_L1 rfl wp_ap_count_d18 ?_
      refine wt_goto hE 25 wp_ap_count_d21 rfl ?_
      cases h
      exact wt_iret hE hR wp_ap_count_d25
  · have h := wt_ip c1 h
    refine wt_aload_n hE wp_ap_count_d4 rfl ?_
    refine wt_geti hE wt_lf_ap_101 (hD 0 (Nat.le_of_ble_eq_true rfl)) wt_L0 rfl wp_ap_count_d5 ?_
    cases h
    exact wt_iret hE hR wp_ap_count_d8
def wb10m0_prog_9_method_3_code_r0 : List (List Nat) := [27, 155, 0, 15, 27, 42, 180, 0, 34, 162, 0, 7, 4, 167, 0, 4, 3, 172] :: []
set_option maxRecDepth 100000 in
theorem wb10m0_prog_9_method_3_code_c0 : wt_cs prog_9_method_3_code 0 wb10m0_prog_9_method_3_code_r0 := wt_cs_of (by decide +kernel)
theorem wp_tg_has_d0 : decode prog_9_method_3_code 0 = .ok (.iload_n 1, 1) := wt_op27 wb10m0_prog_9_method_3_code_c0 0 rfl rfl
theorem wp_tg_has_d1 : decode prog_9_method_3_code 1 = .ok (.ifCond .lt 15, 3) := wt_op155 wb10m0_prog_9_method_3_code_c0 1 rfl rfl rfl
theorem wp_tg_has_d4 : decode prog_9_method_3_code 4 = .ok (.iload_n 1, 1) := wt_op27 wb10m0_prog_9_method_3_code_c0 4 rfl rfl
theorem wp_tg_has_d5 : decode prog_9_method_3_code 5 = .ok (.aload_n 0, 1) := wt_op42 wb10m0_prog_9_method_3_code_c0 5 rfl rfl
theorem wp_tg_has_d6 : decode prog_9_method_3_code 6 = .ok (.getfield 34, 3) := wt_op180 wb10m0_prog_9_method_3_code_c0 6 rfl rfl rfl
theorem wp_tg_has_d9 : decode prog_9_method_3_code 9 = .ok (.if_icmp .ge 7, 3) := wt_op162 wb10m0_prog_9_method_3_code_c0 9 rfl rfl rfl
theorem wp_tg_has_d12 : decode prog_9_method_3_code 12 = .ok (.iconst 1, 1) := wt_op4 wb10m0_prog_9_method_3_code_c0 12 rfl rfl
theorem wp_tg_has_d13 : decode prog_9_method_3_code 13 = .ok (.goto 4, 3) := wt_op167 wb10m0_prog_9_method_3_code_c0 13 rfl rfl rfl
theorem wp_tg_has_d16 : decode prog_9_method_3_code 16 = .ok (.iconst 0, 1) := wt_op3 wb10m0_prog_9_method_3_code_c0 16 rfl rfl
theorem wp_tg_has_d17 : decode prog_9_method_3_code 17 = .ok (.ireturn, 1) := wt_op172 wb10m0_prog_9_method_3_code_c0 17 rfl rfl
noncomputable def wp_tg_has (n : Nat) (t0 : Nat) (x1 : Int32) (σ : wt_St) : Option (Int32 × wt_St) :=
  if x1 < 0 then
    some ((0 : Int32), σ)
  else
    if (wt_gf σ t0 6) ≤ x1 then
      some ((0 : Int32), σ)
    else
      some ((1 : Int32), σ)
set_option maxRecDepth 100000 in
set_option maxHeartbeats 4000000 in
theorem wp_tg_has_ok {l : Launch} {w : wt_E} {n : Nat} {t0 : Nat} {x1 : Int32} (hI_t0 : wt_isTongue t0) (hT_t0 : ∀ j, j < 7 → wt_dom w (t0 + j)) {σ : wt_St} {q : Int32 × wt_St} (h : wp_tg_has n t0 x1 σ = some q) : wt_Ctr l w wt_y_tg_has prog_9_method_3_code 2 (some .boolean) 0 [.ref (wt_ad w t0), .int x1] σ (some q.1) q.2 := by
  refine wt_ctr wt_pl_tg_has rfl (Nat.le_of_ble_eq_true rfl) [some (.ref (wt_ad w t0)), some (.int x1)] rfl ?_
  intro X hXl hXw hE hR
  subst hXl
  subst hXw
  have hE : wt_Ok X prog_9_method_3_code 2 "WornType$Tongue" 0 0 := hE
  unfold wp_tg_has at h
  refine wt_iload_n hE wp_tg_has_d0 rfl ?_
  refine wt_if_lt hE 16 wp_tg_has_d1 rfl (fun c1 => ?_) (fun c1 => ?_)
  · have h := wt_ip c1 h
    refine wt_iconst hE (0 : Int32) wp_tg_has_d16 wt_ci_0 ?_
    cases h
    exact wt_zret hE (by decide) hR wp_tg_has_d17
  · have h := wt_in c1 h
    refine wt_iload_n hE wp_tg_has_d4 rfl ?_
    refine wt_aload_n hE wp_tg_has_d5 rfl ?_
    refine wt_geti hE wt_lf_tg_34 (hT_t0 0 (Nat.le_of_ble_eq_true rfl)) (hI_t0.1) rfl wp_tg_has_d6 ?_
    refine wt_icmp_ge hE 16 wp_tg_has_d9 rfl (fun c2 => ?_) (fun c2 => ?_)
    · have h := wt_ip c2 h
      refine wt_iconst hE (0 : Int32) wp_tg_has_d16 wt_ci_0 ?_
      cases h
      exact wt_zret hE (by decide) hR wp_tg_has_d17
    · have h := wt_in c2 h
      refine wt_iconst hE (1 : Int32) wp_tg_has_d12 wt_ci_1 ?_
      refine wt_goto hE 17 wp_tg_has_d13 rfl ?_
      cases h
      exact wt_zret hE (by decide) hR wp_tg_has_d17
def wb10m0_prog_6_method_10_code_r1 : List (List Nat) := [46, 162, 0, 6, 21, 4, 172, 132, 4, 1, 167, 255, 221, 2, 172] :: []
def wb10m0_prog_6_method_10_code_r0 : List (List Nat) := [3, 54, 4, 21, 4, 43, 190, 162, 0, 34, 43, 21, 4, 46, 158, 0, 21, 42, 21, 4, 28, 45, 182, 0, 37, 43, 21, 4] :: wb10m0_prog_6_method_10_code_r1
set_option maxRecDepth 100000 in
theorem wb10m0_prog_6_method_10_code_c0 : wt_cs prog_6_method_10_code 0 wb10m0_prog_6_method_10_code_r0 := wt_cs_of (by decide +kernel)
theorem wb10m0_prog_6_method_10_code_c1 : wt_cs prog_6_method_10_code 28 wb10m0_prog_6_method_10_code_r1 := wt_cs_tl (m := 28) wb10m0_prog_6_method_10_code_c0 rfl rfl
theorem wp_sk_lacking_d0 : decode prog_6_method_10_code 0 = .ok (.iconst 0, 1) := wt_op3 wb10m0_prog_6_method_10_code_c0 0 rfl rfl
theorem wp_sk_lacking_d1 : decode prog_6_method_10_code 1 = .ok (.istore 4, 2) := wt_op54 wb10m0_prog_6_method_10_code_c0 1 rfl rfl
theorem wp_sk_lacking_d3 : decode prog_6_method_10_code 3 = .ok (.iload 4, 2) := wt_op21 wb10m0_prog_6_method_10_code_c0 3 rfl rfl
theorem wp_sk_lacking_d5 : decode prog_6_method_10_code 5 = .ok (.aload_n 1, 1) := wt_op43 wb10m0_prog_6_method_10_code_c0 5 rfl rfl
theorem wp_sk_lacking_d6 : decode prog_6_method_10_code 6 = .ok (.arraylength, 1) := wt_op190 wb10m0_prog_6_method_10_code_c0 6 rfl rfl
theorem wp_sk_lacking_d7 : decode prog_6_method_10_code 7 = .ok (.if_icmp .ge 34, 3) := wt_op162 wb10m0_prog_6_method_10_code_c0 7 rfl rfl rfl
theorem wp_sk_lacking_d10 : decode prog_6_method_10_code 10 = .ok (.aload_n 1, 1) := wt_op43 wb10m0_prog_6_method_10_code_c0 10 rfl rfl
theorem wp_sk_lacking_d11 : decode prog_6_method_10_code 11 = .ok (.iload 4, 2) := wt_op21 wb10m0_prog_6_method_10_code_c0 11 rfl rfl
theorem wp_sk_lacking_d13 : decode prog_6_method_10_code 13 = .ok (.iaload, 1) := wt_op46 wb10m0_prog_6_method_10_code_c0 13 rfl rfl
theorem wp_sk_lacking_d14 : decode prog_6_method_10_code 14 = .ok (.ifCond .le 21, 3) := wt_op158 wb10m0_prog_6_method_10_code_c0 14 rfl rfl rfl
theorem wp_sk_lacking_d17 : decode prog_6_method_10_code 17 = .ok (.aload_n 0, 1) := wt_op42 wb10m0_prog_6_method_10_code_c0 17 rfl rfl
theorem wp_sk_lacking_d18 : decode prog_6_method_10_code 18 = .ok (.iload 4, 2) := wt_op21 wb10m0_prog_6_method_10_code_c0 18 rfl rfl
theorem wp_sk_lacking_d20 : decode prog_6_method_10_code 20 = .ok (.iload_n 2, 1) := wt_op28 wb10m0_prog_6_method_10_code_c0 20 rfl rfl
theorem wp_sk_lacking_d21 : decode prog_6_method_10_code 21 = .ok (.aload_n 3, 1) := wt_op45 wb10m0_prog_6_method_10_code_c0 21 rfl rfl
theorem wp_sk_lacking_d22 : decode prog_6_method_10_code 22 = .ok (.invokevirtual 37, 3) := wt_op182 wb10m0_prog_6_method_10_code_c0 22 rfl rfl rfl
theorem wp_sk_lacking_d25 : decode prog_6_method_10_code 25 = .ok (.aload_n 1, 1) := wt_op43 wb10m0_prog_6_method_10_code_c0 25 rfl rfl
theorem wp_sk_lacking_d26 : decode prog_6_method_10_code 26 = .ok (.iload 4, 2) := wt_op21 wb10m0_prog_6_method_10_code_c0 26 rfl rfl
theorem wp_sk_lacking_d28 : decode prog_6_method_10_code 28 = .ok (.iaload, 1) := wt_op46 wb10m0_prog_6_method_10_code_c1 0 rfl rfl
theorem wp_sk_lacking_d29 : decode prog_6_method_10_code 29 = .ok (.if_icmp .ge 6, 3) := wt_op162 wb10m0_prog_6_method_10_code_c1 1 rfl rfl rfl
theorem wp_sk_lacking_d32 : decode prog_6_method_10_code 32 = .ok (.iload 4, 2) := wt_op21 wb10m0_prog_6_method_10_code_c1 4 rfl rfl
theorem wp_sk_lacking_d34 : decode prog_6_method_10_code 34 = .ok (.ireturn, 1) := wt_op172 wb10m0_prog_6_method_10_code_c1 6 rfl rfl
theorem wp_sk_lacking_d35 : decode prog_6_method_10_code 35 = .ok (.iinc 4 1, 3) := wt_op132 wb10m0_prog_6_method_10_code_c1 7 rfl rfl rfl
theorem wp_sk_lacking_d38 : decode prog_6_method_10_code 38 = .ok (.goto (-35), 3) := wt_op167 wb10m0_prog_6_method_10_code_c1 10 rfl rfl rfl
theorem wp_sk_lacking_d41 : decode prog_6_method_10_code 41 = .ok (.iconst (-1), 1) := wt_op2 wb10m0_prog_6_method_10_code_c1 13 rfl rfl
theorem wp_sk_lacking_d42 : decode prog_6_method_10_code 42 = .ok (.ireturn, 1) := wt_op172 wb10m0_prog_6_method_10_code_c1 14 rfl rfl
noncomputable def wp_sk_lacking_B35 (n : Nat) (a1 : Nat) (a3 : Nat) (x2 : Int32) (x4 : Int32) (K3 : Int32 × wt_St → Option (Int32 × wt_St)) (σ : wt_St) : Option (Int32 × wt_St) :=
  K3 ((x4 + (1 : Int32)), σ)
set_option maxRecDepth 100000 in
set_option maxHeartbeats 4000000 in
theorem wp_sk_lacking_B35_ok  {a1 : Nat} {a3 : Nat} {x2 : Int32} {x4 : Int32} {X : wt_X} {n : Nat} {res : Int32 × wt_St} (hE : wt_Ok X prog_6_method_10_code 5 "WornType$Stock" 3 0) (hR : wt_Rt X (some .int) (some res.1) res.2) (hD : ∀ i, i < 108 → wt_dom (wt_xw X) i) (hA_a1 : wt_LAY[a1]? = some (0, wt_ln a1, [])) (hd_a1 : wt_dom (wt_xw X) a1) (hA_a3 : wt_LAY[a3]? = some (0, wt_ln a3, [])) (hd_a3 : wt_dom (wt_xw X) a3) {K3 : Int32 × wt_St → Option (Int32 × wt_St)} (hK3 : ∀ s : Int32 × wt_St, K3 s = some res → wt_V X 0 s.2 3 [some (.ref (wt_ad (wt_xw X) 76)), some (.ref (wt_ad (wt_xw X) a1)), some (.int x2), some (.ref (wt_ad (wt_xw X) a3)), some (.int s.1)] []) {σ : wt_St} (h : wp_sk_lacking_B35 n a1 a3 x2 x4 K3 σ = some res) : wt_V X 0 σ 35 [some (.ref (wt_ad (wt_xw X) 76)), some (.ref (wt_ad (wt_xw X) a1)), some (.int x2), some (.ref (wt_ad (wt_xw X) a3)), some (.int x4)] [] := by
  unfold wp_sk_lacking_B35 at h
  refine wt_iinc hE (x4 + (1 : Int32)) [some (.ref (wt_ad (wt_xw X) 76)), some (.ref (wt_ad (wt_xw X) a1)), some (.int x2), some (.ref (wt_ad (wt_xw X) a3)), some (.int (x4 + (1 : Int32)))] wp_sk_lacking_d35 (by decide) rfl rfl rfl ?_
  refine wt_goto hE 3 wp_sk_lacking_d38 rfl ?_
  exact hK3 ((x4 + (1 : Int32)), σ) h
noncomputable def wp_sk_lacking_B3 (n : Nat) (a1 : Nat) (a3 : Nat) (x2 : Int32) (K3 : Int32 × wt_St → Option (Int32 × wt_St)) (s : Int32 × wt_St) : Option (Int32 × wt_St) :=
  if (nI (wt_ln a1)) ≤ s.1 then
    some ((-1 : Int32), s.2)
  else
    if s.1 < 0 ∨ (wt_ln a1) ≤ Int32.toNatClampNeg s.1 then none else
    if (wt_ga s.2 a1 (Int32.toNatClampNeg s.1)) ≤ 0 then
      wp_sk_lacking_B35 n a1 a3 x2 s.1 K3 s.2
    else
      (wp_sk_ready n a3 s.1 x2 s.2).bind fun q4 =>
      if s.1 < 0 ∨ (wt_ln a1) ≤ Int32.toNatClampNeg s.1 then none else
      if (wt_ga q4.2 a1 (Int32.toNatClampNeg s.1)) ≤ q4.1 then
        wp_sk_lacking_B35 n a1 a3 x2 s.1 K3 q4.2
      else
        some (s.1, q4.2)
set_option maxRecDepth 100000 in
set_option maxHeartbeats 4000000 in
theorem wp_sk_lacking_B3_ok  {a1 : Nat} {a3 : Nat} {x2 : Int32} {X : wt_X} {n : Nat} {res : Int32 × wt_St} (hE : wt_Ok X prog_6_method_10_code 5 "WornType$Stock" 3 0) (hR : wt_Rt X (some .int) (some res.1) res.2) (hD : ∀ i, i < 108 → wt_dom (wt_xw X) i) (hA_a1 : wt_LAY[a1]? = some (0, wt_ln a1, [])) (hd_a1 : wt_dom (wt_xw X) a1) (hA_a3 : wt_LAY[a3]? = some (0, wt_ln a3, [])) (hd_a3 : wt_dom (wt_xw X) a3) {K3 : Int32 × wt_St → Option (Int32 × wt_St)} (hK3 : ∀ s : Int32 × wt_St, K3 s = some res → wt_V X 0 s.2 3 [some (.ref (wt_ad (wt_xw X) 76)), some (.ref (wt_ad (wt_xw X) a1)), some (.int x2), some (.ref (wt_ad (wt_xw X) a3)), some (.int s.1)] []) {s : Int32 × wt_St} (h : wp_sk_lacking_B3 n a1 a3 x2 K3 s = some res) : wt_V X 0 s.2 3 [some (.ref (wt_ad (wt_xw X) 76)), some (.ref (wt_ad (wt_xw X) a1)), some (.int x2), some (.ref (wt_ad (wt_xw X) a3)), some (.int s.1)] [] := by
  unfold wp_sk_lacking_B3 at h
  refine wt_iload hE wp_sk_lacking_d3 rfl ?_
  refine wt_aload_n hE wp_sk_lacking_d5 rfl ?_
  refine wt_alen hE (nI (wt_ln a1)) hd_a1 hA_a1 rfl wp_sk_lacking_d6 ?_
  refine wt_icmp_ge hE 41 wp_sk_lacking_d7 rfl (fun c1 => ?_) (fun c1 => ?_)
  · have h := wt_ip c1 h
    refine wt_iconst hE (-1 : Int32) wp_sk_lacking_d41 wt_ci_m1 ?_
    cases h
    exact wt_iret hE hR wp_sk_lacking_d42
  · have h := wt_in c1 h
    refine wt_aload_n hE wp_sk_lacking_d10 rfl ?_
    refine wt_iload hE wp_sk_lacking_d11 rfl ?_
    obtain ⟨g2, h⟩ := wt_gd h
    refine wt_iald hE hd_a1 hA_a1 g2 wp_sk_lacking_d13 ?_
    refine wt_if_le hE 35 wp_sk_lacking_d14 rfl (fun c3 => ?_) (fun c3 => ?_)
    · have h := wt_ip c3 h
      exact wp_sk_lacking_B35_ok hE hR hD hA_a1 hd_a1 hA_a3 hd_a3 hK3 h
    · have h := wt_in c3 h
      refine wt_aload_n hE wp_sk_lacking_d17 rfl ?_
      refine wt_iload hE wp_sk_lacking_d18 rfl ?_
      refine wt_iload_n hE wp_sk_lacking_d20 rfl ?_
      refine wt_aload_n hE wp_sk_lacking_d21 rfl ?_
      obtain ⟨q4, hq4, h⟩ := wt_bi h
      refine wt_callVi hE [.int s.1, .int x2, .ref (wt_ad (wt_xw X) a3)] wt_lm_sk_37 wt_ya_sk_ready (wp_sk_ready_ok hD (wt_lnE hA_a3) hd_a3 hq4) (by omega) (hD 76 (Nat.le_of_ble_eq_true rfl)) wt_L76 rfl rfl rfl (Nat.le_of_ble_eq_true rfl) (Nat.zero_le _) wp_sk_lacking_d22 (fun hbq4 => ?_)
      refine wt_aload_n hE wp_sk_lacking_d25 rfl ?_
      refine wt_iload hE wp_sk_lacking_d26 rfl ?_
      obtain ⟨g5, h⟩ := wt_gd h
      refine wt_iald hE hd_a1 hA_a1 g5 wp_sk_lacking_d28 ?_
      refine wt_icmp_ge hE 35 wp_sk_lacking_d29 rfl (fun c6 => ?_) (fun c6 => ?_)
      · have h := wt_ip c6 h
        exact wp_sk_lacking_B35_ok hE hR hD hA_a1 hd_a1 hA_a3 hd_a3 hK3 h
      · have h := wt_in c6 h
        refine wt_iload hE wp_sk_lacking_d32 rfl ?_
        cases h
        exact wt_iret hE hR wp_sk_lacking_d34
noncomputable def wp_sk_lacking (n : Nat) (a1 : Nat) (a3 : Nat) (x2 : Int32) (σ : wt_St) : Option (Int32 × wt_St) :=
  wt_it (wp_sk_lacking_B3 n a1 a3 x2) n ((0 : Int32), σ)
set_option maxRecDepth 100000 in
set_option maxHeartbeats 4000000 in
theorem wp_sk_lacking_ok {l : Launch} {w : wt_E} {n : Nat} {a1 : Nat} {a3 : Nat} {x2 : Int32} (hD : ∀ i, i < 108 → wt_dom w i) (hA_a1 : wt_LAY[a1]? = some (0, wt_ln a1, [])) (hd_a1 : wt_dom w a1) (hA_a3 : wt_LAY[a3]? = some (0, wt_ln a3, [])) (hd_a3 : wt_dom w a3) {σ : wt_St} {q : Int32 × wt_St} (h : wp_sk_lacking n a1 a3 x2 σ = some q) : wt_Ctr l w wt_y_sk_lacking prog_6_method_10_code 5 (some .int) 3 [.ref (wt_ad w 76), .ref (wt_ad w a1), .int x2, .ref (wt_ad w a3)] σ (some q.1) q.2 := by
  refine wt_ctr wt_pl_sk_lacking rfl (Nat.le_of_ble_eq_true rfl) [some (.ref (wt_ad w 76)), some (.ref (wt_ad w a1)), some (.int x2), some (.ref (wt_ad w a3)), none] rfl ?_
  intro X hXl hXw hE hR
  subst hXl
  subst hXw
  have hE : wt_Ok X prog_6_method_10_code 5 "WornType$Stock" 3 0 := hE
  unfold wp_sk_lacking at h
  refine wt_iconst hE (0 : Int32) wp_sk_lacking_d0 wt_ci_0 ?_
  refine wt_istore hE [some (.ref (wt_ad (wt_xw X) 76)), some (.ref (wt_ad (wt_xw X) a1)), some (.int x2), some (.ref (wt_ad (wt_xw X) a3)), some (.int (0 : Int32))] wp_sk_lacking_d1 (Nat.le_of_ble_eq_true rfl) rfl ?_
  exact wt_it_ind (fun z => wt_V X 0 z.2 3 [some (.ref (wt_ad (wt_xw X) 76)), some (.ref (wt_ad (wt_xw X) a1)), some (.int x2), some (.ref (wt_ad (wt_xw X) a3)), some (.int z.1)] []) (fun K hK z h => wp_sk_lacking_B3_ok hE hR hD hA_a1 hd_a1 hA_a3 hd_a3 hK h) n ((0 : Int32), σ) h
def wb10m0_prog_6_method_16_code_r1 : List (List Nat) := [4, 167, 0, 4, 3, 172] :: []
def wb10m0_prog_6_method_16_code_r0 : List (List Nat) := [42, 180, 0, 15, 180, 0, 73, 154, 0, 16, 27, 28, 162, 0, 7, 4, 167, 0, 17, 3, 167, 0, 13, 27, 28, 164, 0, 7] :: wb10m0_prog_6_method_16_code_r1
set_option maxRecDepth 100000 in
theorem wb10m0_prog_6_method_16_code_c0 : wt_cs prog_6_method_16_code 0 wb10m0_prog_6_method_16_code_r0 := wt_cs_of (by decide +kernel)
theorem wb10m0_prog_6_method_16_code_c1 : wt_cs prog_6_method_16_code 28 wb10m0_prog_6_method_16_code_r1 := wt_cs_tl (m := 28) wb10m0_prog_6_method_16_code_c0 rfl rfl
theorem wp_sk_comesFirst_d0 : decode prog_6_method_16_code 0 = .ok (.aload_n 0, 1) := wt_op42 wb10m0_prog_6_method_16_code_c0 0 rfl rfl
theorem wp_sk_comesFirst_d1 : decode prog_6_method_16_code 1 = .ok (.getfield 15, 3) := wt_op180 wb10m0_prog_6_method_16_code_c0 1 rfl rfl rfl
theorem wp_sk_comesFirst_d4 : decode prog_6_method_16_code 4 = .ok (.getfield 73, 3) := wt_op180 wb10m0_prog_6_method_16_code_c0 4 rfl rfl rfl
theorem wp_sk_comesFirst_d7 : decode prog_6_method_16_code 7 = .ok (.ifCond .ne 16, 3) := wt_op154 wb10m0_prog_6_method_16_code_c0 7 rfl rfl rfl
theorem wp_sk_comesFirst_d10 : decode prog_6_method_16_code 10 = .ok (.iload_n 1, 1) := wt_op27 wb10m0_prog_6_method_16_code_c0 10 rfl rfl
theorem wp_sk_comesFirst_d11 : decode prog_6_method_16_code 11 = .ok (.iload_n 2, 1) := wt_op28 wb10m0_prog_6_method_16_code_c0 11 rfl rfl
theorem wp_sk_comesFirst_d12 : decode prog_6_method_16_code 12 = .ok (.if_icmp .ge 7, 3) := wt_op162 wb10m0_prog_6_method_16_code_c0 12 rfl rfl rfl
theorem wp_sk_comesFirst_d15 : decode prog_6_method_16_code 15 = .ok (.iconst 1, 1) := wt_op4 wb10m0_prog_6_method_16_code_c0 15 rfl rfl
theorem wp_sk_comesFirst_d16 : decode prog_6_method_16_code 16 = .ok (.goto 17, 3) := wt_op167 wb10m0_prog_6_method_16_code_c0 16 rfl rfl rfl
theorem wp_sk_comesFirst_d19 : decode prog_6_method_16_code 19 = .ok (.iconst 0, 1) := wt_op3 wb10m0_prog_6_method_16_code_c0 19 rfl rfl
theorem wp_sk_comesFirst_d20 : decode prog_6_method_16_code 20 = .ok (.goto 13, 3) := wt_op167 wb10m0_prog_6_method_16_code_c0 20 rfl rfl rfl
theorem wp_sk_comesFirst_d23 : decode prog_6_method_16_code 23 = .ok (.iload_n 1, 1) := wt_op27 wb10m0_prog_6_method_16_code_c0 23 rfl rfl
theorem wp_sk_comesFirst_d24 : decode prog_6_method_16_code 24 = .ok (.iload_n 2, 1) := wt_op28 wb10m0_prog_6_method_16_code_c0 24 rfl rfl
theorem wp_sk_comesFirst_d25 : decode prog_6_method_16_code 25 = .ok (.if_icmp .le 7, 3) := wt_op164 wb10m0_prog_6_method_16_code_c0 25 rfl rfl rfl
theorem wp_sk_comesFirst_d28 : decode prog_6_method_16_code 28 = .ok (.iconst 1, 1) := wt_op4 wb10m0_prog_6_method_16_code_c1 0 rfl rfl
theorem wp_sk_comesFirst_d29 : decode prog_6_method_16_code 29 = .ok (.goto 4, 3) := wt_op167 wb10m0_prog_6_method_16_code_c1 1 rfl rfl rfl
theorem wp_sk_comesFirst_d32 : decode prog_6_method_16_code 32 = .ok (.iconst 0, 1) := wt_op3 wb10m0_prog_6_method_16_code_c1 4 rfl rfl
theorem wp_sk_comesFirst_d33 : decode prog_6_method_16_code 33 = .ok (.ireturn, 1) := wt_op172 wb10m0_prog_6_method_16_code_c1 5 rfl rfl
noncomputable def wp_sk_comesFirst (n : Nat) (x1 : Int32) (x2 : Int32) (σ : wt_St) : Option (Int32 × wt_St) :=
  if (wt_gf σ 39 9) = 0 then
    if x2 ≤ x1 then
      some ((0 : Int32), σ)
    else
      some ((1 : Int32), σ)
  else
    if x1 ≤ x2 then
      some ((0 : Int32), σ)
    else
      some ((1 : Int32), σ)
set_option maxRecDepth 100000 in
set_option maxHeartbeats 4000000 in
theorem wp_sk_comesFirst_ok {l : Launch} {w : wt_E} {n : Nat} {x1 : Int32} {x2 : Int32} (hD : ∀ i, i < 108 → wt_dom w i) {σ : wt_St} {q : Int32 × wt_St} (h : wp_sk_comesFirst n x1 x2 σ = some q) : wt_Ctr l w wt_y_sk_comesFirst prog_6_method_16_code 3 (some .boolean) 0 [.ref (wt_ad w 76), .int x1, .int x2] σ (some q.1) q.2 := by
  refine wt_ctr wt_pl_sk_comesFirst rfl (Nat.le_of_ble_eq_true rfl) [some (.ref (wt_ad w 76)), some (.int x1), some (.int x2)] rfl ?_
  intro X hXl hXw hE hR
  subst hXl
  subst hXw
  have hE : wt_Ok X prog_6_method_16_code 3 "WornType$Stock" 0 0 := hE
  unfold wp_sk_comesFirst at h
  refine wt_aload_n hE wp_sk_comesFirst_d0 rfl ?_
  refine wt_getr hE (r := 39) wt_lf_sk_15 (hD 76 (Nat.le_of_ble_eq_true rfl)) wt_L76 rfl wp_sk_comesFirst_d1 ?_
  refine wt_geti hE wt_lf_sk_73 (hD 39 (Nat.le_of_ble_eq_true rfl)) wt_L39 rfl wp_sk_comesFirst_d4 ?_
  refine wt_if_ne hE 23 wp_sk_comesFirst_d7 rfl (fun c1 => ?_) (fun c1 => ?_)
  · have h := wt_in c1 h
    refine wt_iload_n hE wp_sk_comesFirst_d23 rfl ?_
    refine wt_iload_n hE wp_sk_comesFirst_d24 rfl ?_
    refine wt_icmp_le hE 32 wp_sk_comesFirst_d25 rfl (fun c2 => ?_) (fun c2 => ?_)
    · have h := wt_ip c2 h
      refine wt_iconst hE (0 : Int32) wp_sk_comesFirst_d32 wt_ci_0 ?_
      cases h
      exact wt_zret hE (by decide) hR wp_sk_comesFirst_d33
    · have h := wt_in c2 h
      refine wt_iconst hE (1 : Int32) wp_sk_comesFirst_d28 wt_ci_1 ?_
      refine wt_goto hE 33 wp_sk_comesFirst_d29 rfl ?_
      cases h
      exact wt_zret hE (by decide) hR wp_sk_comesFirst_d33
  · have h := wt_ip c1 h
    refine wt_iload_n hE wp_sk_comesFirst_d10 rfl ?_
    refine wt_iload_n hE wp_sk_comesFirst_d11 rfl ?_
    refine wt_icmp_ge hE 19 wp_sk_comesFirst_d12 rfl (fun c3 => ?_) (fun c3 => ?_)
    · have h := wt_ip c3 h
      refine wt_iconst hE (0 : Int32) wp_sk_comesFirst_d19 wt_ci_0 ?_
      refine wt_goto hE 33 wp_sk_comesFirst_d20 rfl ?_
      cases h
      exact wt_zret hE (by decide) hR wp_sk_comesFirst_d33
    · have h := wt_in c3 h
      refine wt_iconst hE (1 : Int32) wp_sk_comesFirst_d15 wt_ci_1 ?_
      refine wt_goto hE 33 wp_sk_comesFirst_d16 rfl ?_
      cases h
      exact wt_zret hE (by decide) hR wp_sk_comesFirst_d33
def wb10m0_prog_6_method_13_code_r3 : List (List Nat) := [167, 255, 176, 21, 5, 172] :: []
def wb10m0_prog_6_method_13_code_r2 : List (List Nat) := [21, 5, 2, 159, 0, 18, 42, 21, 8, 45, 21, 5, 184, 0, 25, 182, 0, 58, 153, 0, 7, 21, 7, 54, 5, 132, 6, 1] :: wb10m0_prog_6_method_13_code_r3
def wb10m0_prog_6_method_13_code_r1 : List (List Nat) := [184, 0, 25, 54, 8, 21, 4, 21, 6, 122, 4, 126, 154, 0, 43, 42, 21, 7, 182, 0, 41, 153, 0, 34, 21, 8, 28, 161, 0, 28] :: wb10m0_prog_6_method_13_code_r2
def wb10m0_prog_6_method_13_code_r0 : List (List Nat) := [2, 54, 5, 3, 54, 6, 21, 6, 42, 27, 182, 0, 29, 162, 0, 76, 27, 16, 12, 104, 21, 6, 96, 54, 7, 45, 21, 7] :: wb10m0_prog_6_method_13_code_r1
set_option maxRecDepth 100000 in
theorem wb10m0_prog_6_method_13_code_c0 : wt_cs prog_6_method_13_code 0 wb10m0_prog_6_method_13_code_r0 := wt_cs_of (by decide +kernel)
theorem wb10m0_prog_6_method_13_code_c1 : wt_cs prog_6_method_13_code 28 wb10m0_prog_6_method_13_code_r1 := wt_cs_tl (m := 28) wb10m0_prog_6_method_13_code_c0 rfl rfl
theorem wb10m0_prog_6_method_13_code_c2 : wt_cs prog_6_method_13_code 58 wb10m0_prog_6_method_13_code_r2 := wt_cs_tl (m := 30) wb10m0_prog_6_method_13_code_c1 rfl rfl
theorem wb10m0_prog_6_method_13_code_c3 : wt_cs prog_6_method_13_code 86 wb10m0_prog_6_method_13_code_r3 := wt_cs_tl (m := 28) wb10m0_prog_6_method_13_code_c2 rfl rfl
theorem wp_sk_choose_d0 : decode prog_6_method_13_code 0 = .ok (.iconst (-1), 1) := wt_op2 wb10m0_prog_6_method_13_code_c0 0 rfl rfl
theorem wp_sk_choose_d1 : decode prog_6_method_13_code 1 = .ok (.istore 5, 2) := wt_op54 wb10m0_prog_6_method_13_code_c0 1 rfl rfl
theorem wp_sk_choose_d3 : decode prog_6_method_13_code 3 = .ok (.iconst 0, 1) := wt_op3 wb10m0_prog_6_method_13_code_c0 3 rfl rfl
theorem wp_sk_choose_d4 : decode prog_6_method_13_code 4 = .ok (.istore 6, 2) := wt_op54 wb10m0_prog_6_method_13_code_c0 4 rfl rfl
theorem wp_sk_choose_d6 : decode prog_6_method_13_code 6 = .ok (.iload 6, 2) := wt_op21 wb10m0_prog_6_method_13_code_c0 6 rfl rfl
theorem wp_sk_choose_d8 : decode prog_6_method_13_code 8 = .ok (.aload_n 0, 1) := wt_op42 wb10m0_prog_6_method_13_code_c0 8 rfl rfl
theorem wp_sk_choose_d9 : decode prog_6_method_13_code 9 = .ok (.iload_n 1, 1) := wt_op27 wb10m0_prog_6_method_13_code_c0 9 rfl rfl
theorem wp_sk_choose_d10 : decode prog_6_method_13_code 10 = .ok (.invokevirtual 29, 3) := wt_op182 wb10m0_prog_6_method_13_code_c0 10 rfl rfl rfl
theorem wp_sk_choose_d13 : decode prog_6_method_13_code 13 = .ok (.if_icmp .ge 76, 3) := wt_op162 wb10m0_prog_6_method_13_code_c0 13 rfl rfl rfl
theorem wp_sk_choose_d16 : decode prog_6_method_13_code 16 = .ok (.iload_n 1, 1) := wt_op27 wb10m0_prog_6_method_13_code_c0 16 rfl rfl
theorem wp_sk_choose_d17 : decode prog_6_method_13_code 17 = .ok (.bipush 12, 2) := wt_op16 wb10m0_prog_6_method_13_code_c0 17 rfl rfl rfl
theorem wp_sk_choose_d19 : decode prog_6_method_13_code 19 = .ok (.imul, 1) := wt_op104 wb10m0_prog_6_method_13_code_c0 19 rfl rfl
theorem wp_sk_choose_d20 : decode prog_6_method_13_code 20 = .ok (.iload 6, 2) := wt_op21 wb10m0_prog_6_method_13_code_c0 20 rfl rfl
theorem wp_sk_choose_d22 : decode prog_6_method_13_code 22 = .ok (.iadd, 1) := wt_op96 wb10m0_prog_6_method_13_code_c0 22 rfl rfl
theorem wp_sk_choose_d23 : decode prog_6_method_13_code 23 = .ok (.istore 7, 2) := wt_op54 wb10m0_prog_6_method_13_code_c0 23 rfl rfl
theorem wp_sk_choose_d25 : decode prog_6_method_13_code 25 = .ok (.aload_n 3, 1) := wt_op45 wb10m0_prog_6_method_13_code_c0 25 rfl rfl
theorem wp_sk_choose_d26 : decode prog_6_method_13_code 26 = .ok (.iload 7, 2) := wt_op21 wb10m0_prog_6_method_13_code_c0 26 rfl rfl
theorem wp_sk_choose_d28 : decode prog_6_method_13_code 28 = .ok (.invokestatic 25, 3) := wt_op184 wb10m0_prog_6_method_13_code_c1 0 rfl rfl rfl
theorem wp_sk_choose_d31 : decode prog_6_method_13_code 31 = .ok (.istore 8, 2) := wt_op54 wb10m0_prog_6_method_13_code_c1 3 rfl rfl
theorem wp_sk_choose_d33 : decode prog_6_method_13_code 33 = .ok (.iload 4, 2) := wt_op21 wb10m0_prog_6_method_13_code_c1 5 rfl rfl
theorem wp_sk_choose_d35 : decode prog_6_method_13_code 35 = .ok (.iload 6, 2) := wt_op21 wb10m0_prog_6_method_13_code_c1 7 rfl rfl
theorem wp_sk_choose_d37 : decode prog_6_method_13_code 37 = .ok (.ishr, 1) := wt_op122 wb10m0_prog_6_method_13_code_c1 9 rfl rfl
theorem wp_sk_choose_d38 : decode prog_6_method_13_code 38 = .ok (.iconst 1, 1) := wt_op4 wb10m0_prog_6_method_13_code_c1 10 rfl rfl
theorem wp_sk_choose_d39 : decode prog_6_method_13_code 39 = .ok (.iand, 1) := wt_op126 wb10m0_prog_6_method_13_code_c1 11 rfl rfl
theorem wp_sk_choose_d40 : decode prog_6_method_13_code 40 = .ok (.ifCond .ne 43, 3) := wt_op154 wb10m0_prog_6_method_13_code_c1 12 rfl rfl rfl
theorem wp_sk_choose_d43 : decode prog_6_method_13_code 43 = .ok (.aload_n 0, 1) := wt_op42 wb10m0_prog_6_method_13_code_c1 15 rfl rfl
theorem wp_sk_choose_d44 : decode prog_6_method_13_code 44 = .ok (.iload 7, 2) := wt_op21 wb10m0_prog_6_method_13_code_c1 16 rfl rfl
theorem wp_sk_choose_d46 : decode prog_6_method_13_code 46 = .ok (.invokevirtual 41, 3) := wt_op182 wb10m0_prog_6_method_13_code_c1 18 rfl rfl rfl
theorem wp_sk_choose_d49 : decode prog_6_method_13_code 49 = .ok (.ifCond .eq 34, 3) := wt_op153 wb10m0_prog_6_method_13_code_c1 21 rfl rfl rfl
theorem wp_sk_choose_d52 : decode prog_6_method_13_code 52 = .ok (.iload 8, 2) := wt_op21 wb10m0_prog_6_method_13_code_c1 24 rfl rfl
theorem wp_sk_choose_d54 : decode prog_6_method_13_code 54 = .ok (.iload_n 2, 1) := wt_op28 wb10m0_prog_6_method_13_code_c1 26 rfl rfl
theorem wp_sk_choose_d55 : decode prog_6_method_13_code 55 = .ok (.if_icmp .lt 28, 3) := wt_op161 wb10m0_prog_6_method_13_code_c1 27 rfl rfl rfl
theorem wp_sk_choose_d58 : decode prog_6_method_13_code 58 = .ok (.iload 5, 2) := wt_op21 wb10m0_prog_6_method_13_code_c2 0 rfl rfl
theorem wp_sk_choose_d60 : decode prog_6_method_13_code 60 = .ok (.iconst (-1), 1) := wt_op2 wb10m0_prog_6_method_13_code_c2 2 rfl rfl
theorem wp_sk_choose_d61 : decode prog_6_method_13_code 61 = .ok (.if_icmp .eq 18, 3) := wt_op159 wb10m0_prog_6_method_13_code_c2 3 rfl rfl rfl
theorem wp_sk_choose_d64 : decode prog_6_method_13_code 64 = .ok (.aload_n 0, 1) := wt_op42 wb10m0_prog_6_method_13_code_c2 6 rfl rfl
theorem wp_sk_choose_d65 : decode prog_6_method_13_code 65 = .ok (.iload 8, 2) := wt_op21 wb10m0_prog_6_method_13_code_c2 7 rfl rfl
theorem wp_sk_choose_d67 : decode prog_6_method_13_code 67 = .ok (.aload_n 3, 1) := wt_op45 wb10m0_prog_6_method_13_code_c2 9 rfl rfl
theorem wp_sk_choose_d68 : decode prog_6_method_13_code 68 = .ok (.iload 5, 2) := wt_op21 wb10m0_prog_6_method_13_code_c2 10 rfl rfl
theorem wp_sk_choose_d70 : decode prog_6_method_13_code 70 = .ok (.invokestatic 25, 3) := wt_op184 wb10m0_prog_6_method_13_code_c2 12 rfl rfl rfl
theorem wp_sk_choose_d73 : decode prog_6_method_13_code 73 = .ok (.invokevirtual 58, 3) := wt_op182 wb10m0_prog_6_method_13_code_c2 15 rfl rfl rfl
theorem wp_sk_choose_d76 : decode prog_6_method_13_code 76 = .ok (.ifCond .eq 7, 3) := wt_op153 wb10m0_prog_6_method_13_code_c2 18 rfl rfl rfl
theorem wp_sk_choose_d79 : decode prog_6_method_13_code 79 = .ok (.iload 7, 2) := wt_op21 wb10m0_prog_6_method_13_code_c2 21 rfl rfl
theorem wp_sk_choose_d81 : decode prog_6_method_13_code 81 = .ok (.istore 5, 2) := wt_op54 wb10m0_prog_6_method_13_code_c2 23 rfl rfl
theorem wp_sk_choose_d83 : decode prog_6_method_13_code 83 = .ok (.iinc 6 1, 3) := wt_op132 wb10m0_prog_6_method_13_code_c2 25 rfl rfl rfl
theorem wp_sk_choose_d86 : decode prog_6_method_13_code 86 = .ok (.goto (-80), 3) := wt_op167 wb10m0_prog_6_method_13_code_c3 0 rfl rfl rfl
theorem wp_sk_choose_d89 : decode prog_6_method_13_code 89 = .ok (.iload 5, 2) := wt_op21 wb10m0_prog_6_method_13_code_c3 3 rfl rfl
theorem wp_sk_choose_d91 : decode prog_6_method_13_code 91 = .ok (.ireturn, 1) := wt_op172 wb10m0_prog_6_method_13_code_c3 5 rfl rfl
noncomputable def wp_sk_choose_B83 (n : Nat) (a3 : Nat) (x1 : Int32) (x2 : Int32) (x4 : Int32) (x5 : Int32) (x6 : Int32) (K6 : Int32 × Int32 × wt_St → Option (Int32 × wt_St)) (σ : wt_St) : Option (Int32 × wt_St) :=
  K6 (x5, (x6 + (1 : Int32)), σ)
set_option maxRecDepth 100000 in
set_option maxHeartbeats 4000000 in
theorem wp_sk_choose_B83_ok  {a3 : Nat} {x1 : Int32} {x2 : Int32} {x4 : Int32} {x5 : Int32} {x6 : Int32} {X : wt_X} {n : Nat} {res : Int32 × wt_St} (hE : wt_Ok X prog_6_method_13_code 9 "WornType$Stock" 2 0) (hR : wt_Rt X (some .int) (some res.1) res.2) (hD : ∀ i, i < 108 → wt_dom (wt_xw X) i) (hA_a3 : wt_LAY[a3]? = some (0, wt_ln a3, [])) (hd_a3 : wt_dom (wt_xw X) a3) {K6 : Int32 × Int32 × wt_St → Option (Int32 × wt_St)} (hK6 : ∀ s : Int32 × Int32 × wt_St, K6 s = some res → wt_V X 0 s.2.2 6 [some (.ref (wt_ad (wt_xw X) 76)), some (.int x1), some (.int x2), some (.ref (wt_ad (wt_xw X) a3)), some (.int x4), some (.int s.1), some (.int s.2.1), none, none] []) {σ : wt_St} (h : wp_sk_choose_B83 n a3 x1 x2 x4 x5 x6 K6 σ = some res) : wt_V X 0 σ 83 [some (.ref (wt_ad (wt_xw X) 76)), some (.int x1), some (.int x2), some (.ref (wt_ad (wt_xw X) a3)), some (.int x4), some (.int x5), some (.int x6), none, none] [] := by
  unfold wp_sk_choose_B83 at h
  refine wt_iinc hE (x6 + (1 : Int32)) [some (.ref (wt_ad (wt_xw X) 76)), some (.int x1), some (.int x2), some (.ref (wt_ad (wt_xw X) a3)), some (.int x4), some (.int x5), some (.int (x6 + (1 : Int32))), none, none] wp_sk_choose_d83 (by decide) rfl rfl rfl ?_
  refine wt_goto hE 6 wp_sk_choose_d86 rfl ?_
  exact hK6 (x5, (x6 + (1 : Int32)), σ) h
noncomputable def wp_sk_choose_B79 (n : Nat) (a3 : Nat) (x1 : Int32) (x2 : Int32) (x4 : Int32) (x6 : Int32) (x7 : Int32) (K6 : Int32 × Int32 × wt_St → Option (Int32 × wt_St)) (σ : wt_St) : Option (Int32 × wt_St) :=
  wp_sk_choose_B83 n a3 x1 x2 x4 x7 x6 K6 σ
set_option maxRecDepth 100000 in
set_option maxHeartbeats 4000000 in
theorem wp_sk_choose_B79_ok  {a3 : Nat} {x1 : Int32} {x2 : Int32} {x4 : Int32} {x6 : Int32} {x7 : Int32} {X : wt_X} {n : Nat} {res : Int32 × wt_St} (hE : wt_Ok X prog_6_method_13_code 9 "WornType$Stock" 2 0) (hR : wt_Rt X (some .int) (some res.1) res.2) (hD : ∀ i, i < 108 → wt_dom (wt_xw X) i) (hA_a3 : wt_LAY[a3]? = some (0, wt_ln a3, [])) (hd_a3 : wt_dom (wt_xw X) a3) {K6 : Int32 × Int32 × wt_St → Option (Int32 × wt_St)} (hK6 : ∀ s : Int32 × Int32 × wt_St, K6 s = some res → wt_V X 0 s.2.2 6 [some (.ref (wt_ad (wt_xw X) 76)), some (.int x1), some (.int x2), some (.ref (wt_ad (wt_xw X) a3)), some (.int x4), some (.int s.1), some (.int s.2.1), none, none] []) {σ : wt_St} (h : wp_sk_choose_B79 n a3 x1 x2 x4 x6 x7 K6 σ = some res) : wt_V X 0 σ 79 [some (.ref (wt_ad (wt_xw X) 76)), some (.int x1), some (.int x2), some (.ref (wt_ad (wt_xw X) a3)), some (.int x4), none, some (.int x6), some (.int x7), none] [] := by
  unfold wp_sk_choose_B79 at h
  refine wt_iload hE wp_sk_choose_d79 rfl ?_
  refine wt_istore hE [some (.ref (wt_ad (wt_xw X) 76)), some (.int x1), some (.int x2), some (.ref (wt_ad (wt_xw X) a3)), some (.int x4), some (.int x7), some (.int x6), some (.int x7), none] wp_sk_choose_d81 (Nat.le_of_ble_eq_true rfl) rfl ?_
  refine wt_wk [true, true, true, true, true, true, true, false, true] rfl ?_
  exact wp_sk_choose_B83_ok hE hR hD hA_a3 hd_a3 hK6 h
noncomputable def wp_sk_choose_B6 (n : Nat) (a3 : Nat) (x1 : Int32) (x2 : Int32) (x4 : Int32) (K6 : Int32 × Int32 × wt_St → Option (Int32 × wt_St)) (s : Int32 × Int32 × wt_St) : Option (Int32 × wt_St) :=
  (wp_sk_pieces n x1 s.2.2).bind fun q1 =>
  if q1.1 ≤ s.2.1 then
    some (s.1, q1.2)
  else
    (wp_ap_look n a3 ((x1 * (12 : Int32)) + s.2.1) q1.2).bind fun q3 =>
    if ((x4 >>> (s.2.1 &&& 31)) &&& (1 : Int32)) = 0 then
      (wp_sk_lies n ((x1 * (12 : Int32)) + s.2.1) q3.2).bind fun q5 =>
      if q5.1 = 0 then
        wp_sk_choose_B83 n a3 x1 x2 x4 s.1 s.2.1 K6 q5.2
      else
        if q3.1 < x2 then
          wp_sk_choose_B83 n a3 x1 x2 x4 s.1 s.2.1 K6 q5.2
        else
          if s.1 = (-1 : Int32) then
            wp_sk_choose_B79 n a3 x1 x2 x4 s.2.1 ((x1 * (12 : Int32)) + s.2.1) K6 q5.2
          else
            (wp_ap_look n a3 s.1 q5.2).bind fun q9 =>
            (wp_sk_comesFirst n q3.1 q9.1 q9.2).bind fun q10 =>
            if q10.1 = 0 then
              wp_sk_choose_B83 n a3 x1 x2 x4 s.1 s.2.1 K6 q10.2
            else
              wp_sk_choose_B79 n a3 x1 x2 x4 s.2.1 ((x1 * (12 : Int32)) + s.2.1) K6 q10.2
    else
      wp_sk_choose_B83 n a3 x1 x2 x4 s.1 s.2.1 K6 q3.2
set_option maxRecDepth 100000 in
set_option maxHeartbeats 4000000 in
theorem wp_sk_choose_B6_ok  {a3 : Nat} {x1 : Int32} {x2 : Int32} {x4 : Int32} {X : wt_X} {n : Nat} {res : Int32 × wt_St} (hE : wt_Ok X prog_6_method_13_code 9 "WornType$Stock" 2 0) (hR : wt_Rt X (some .int) (some res.1) res.2) (hD : ∀ i, i < 108 → wt_dom (wt_xw X) i) (hA_a3 : wt_LAY[a3]? = some (0, wt_ln a3, [])) (hd_a3 : wt_dom (wt_xw X) a3) {K6 : Int32 × Int32 × wt_St → Option (Int32 × wt_St)} (hK6 : ∀ s : Int32 × Int32 × wt_St, K6 s = some res → wt_V X 0 s.2.2 6 [some (.ref (wt_ad (wt_xw X) 76)), some (.int x1), some (.int x2), some (.ref (wt_ad (wt_xw X) a3)), some (.int x4), some (.int s.1), some (.int s.2.1), none, none] []) {s : Int32 × Int32 × wt_St} (h : wp_sk_choose_B6 n a3 x1 x2 x4 K6 s = some res) : wt_V X 0 s.2.2 6 [some (.ref (wt_ad (wt_xw X) 76)), some (.int x1), some (.int x2), some (.ref (wt_ad (wt_xw X) a3)), some (.int x4), some (.int s.1), some (.int s.2.1), none, none] [] := by
  unfold wp_sk_choose_B6 at h
  refine wt_iload hE wp_sk_choose_d6 rfl ?_
  refine wt_aload_n hE wp_sk_choose_d8 rfl ?_
  refine wt_iload_n hE wp_sk_choose_d9 rfl ?_
  obtain ⟨q1, hq1, h⟩ := wt_bi h
  refine wt_callVi hE [.int x1] wt_lm_sk_29 wt_ya_sk_pieces (wp_sk_pieces_ok hD hq1) (by omega) (hD 76 (Nat.le_of_ble_eq_true rfl)) wt_L76 rfl rfl rfl (Nat.le_of_ble_eq_true rfl) (Nat.zero_le _) wp_sk_choose_d10 (fun hbq1 => ?_)
  refine wt_icmp_ge hE 89 wp_sk_choose_d13 rfl (fun c2 => ?_) (fun c2 => ?_)
  · have h := wt_ip c2 h
    refine wt_iload hE wp_sk_choose_d89 rfl ?_
    cases h
    exact wt_iret hE hR wp_sk_choose_d91
  · have h := wt_in c2 h
    refine wt_iload_n hE wp_sk_choose_d16 rfl ?_
    refine wt_bipush hE (12 : Int32) wp_sk_choose_d17 wt_cb_12 ?_
    refine wt_imul hE wp_sk_choose_d19 ?_
    refine wt_iload hE wp_sk_choose_d20 rfl ?_
    refine wt_iadd hE wp_sk_choose_d22 ?_
    refine wt_istore hE [some (.ref (wt_ad (wt_xw X) 76)), some (.int x1), some (.int x2), some (.ref (wt_ad (wt_xw X) a3)), some (.int x4), some (.int s.1), some (.int s.2.1), some (.int ((x1 * (12 : Int32)) + s.2.1)), none] wp_sk_choose_d23 (Nat.le_of_ble_eq_true rfl) rfl ?_
    refine wt_aload_n hE wp_sk_choose_d25 rfl ?_
    refine wt_iload hE wp_sk_choose_d26 rfl ?_
    obtain ⟨q3, hq3, h⟩ := wt_bi h
    refine wt_callSi hE [.ref (wt_ad (wt_xw X) a3), .int ((x1 * (12 : Int32)) + s.2.1)] wt_lm_sk_25 wt_ya_ap_look (wp_ap_look_ok (wt_lnE hA_a3) hd_a3 hq3) (by omega) rfl rfl (Nat.le_of_ble_eq_true rfl) (Nat.zero_le _) wp_sk_choose_d28 (fun hbq3 => ?_)
    refine wt_istore hE [some (.ref (wt_ad (wt_xw X) 76)), some (.int x1), some (.int x2), some (.ref (wt_ad (wt_xw X) a3)), some (.int x4), some (.int s.1), some (.int s.2.1), some (.int ((x1 * (12 : Int32)) + s.2.1)), some (.int q3.1)] wp_sk_choose_d31 (Nat.le_of_ble_eq_true rfl) rfl ?_
    refine wt_iload hE wp_sk_choose_d33 rfl ?_
    refine wt_iload hE wp_sk_choose_d35 rfl ?_
    refine wt_ishr hE wp_sk_choose_d37 ?_
    refine wt_iconst hE (1 : Int32) wp_sk_choose_d38 wt_ci_1 ?_
    refine wt_iand hE wp_sk_choose_d39 ?_
    refine wt_if_ne hE 83 wp_sk_choose_d40 rfl (fun c4 => ?_) (fun c4 => ?_)
    · have h := wt_in c4 h
      refine wt_wk [true, true, true, true, true, true, true, false, false] rfl ?_
      exact wp_sk_choose_B83_ok hE hR hD hA_a3 hd_a3 hK6 h
    · have h := wt_ip c4 h
      refine wt_aload_n hE wp_sk_choose_d43 rfl ?_
      refine wt_iload hE wp_sk_choose_d44 rfl ?_
      obtain ⟨q5, hq5, h⟩ := wt_bi h
      refine wt_callVi hE [.int ((x1 * (12 : Int32)) + s.2.1)] wt_lm_sk_41 wt_ya_sk_lies (wp_sk_lies_ok hD hq5) (by omega) (hD 76 (Nat.le_of_ble_eq_true rfl)) wt_L76 rfl rfl rfl (Nat.le_of_ble_eq_true rfl) (Nat.zero_le _) wp_sk_choose_d46 (fun hbq5 => ?_)
      refine wt_if_eq hE 83 wp_sk_choose_d49 rfl (fun c6 => ?_) (fun c6 => ?_)
      · have h := wt_ip c6 h
        refine wt_wk [true, true, true, true, true, true, true, false, false] rfl ?_
        exact wp_sk_choose_B83_ok hE hR hD hA_a3 hd_a3 hK6 h
      · have h := wt_in c6 h
        refine wt_iload hE wp_sk_choose_d52 rfl ?_
        refine wt_iload_n hE wp_sk_choose_d54 rfl ?_
        refine wt_icmp_lt hE 83 wp_sk_choose_d55 rfl (fun c7 => ?_) (fun c7 => ?_)
        · have h := wt_ip c7 h
          refine wt_wk [true, true, true, true, true, true, true, false, false] rfl ?_
          exact wp_sk_choose_B83_ok hE hR hD hA_a3 hd_a3 hK6 h
        · have h := wt_in c7 h
          refine wt_iload hE wp_sk_choose_d58 rfl ?_
          refine wt_iconst hE (-1 : Int32) wp_sk_choose_d60 wt_ci_m1 ?_
          refine wt_icmp_eq hE 79 wp_sk_choose_d61 rfl (fun c8 => ?_) (fun c8 => ?_)
          · have h := wt_ip c8 h
            refine wt_wk [true, true, true, true, true, false, true, true, false] rfl ?_
            exact wp_sk_choose_B79_ok hE hR hD hA_a3 hd_a3 hK6 h
          · have h := wt_in c8 h
            refine wt_aload_n hE wp_sk_choose_d64 rfl ?_
            refine wt_iload hE wp_sk_choose_d65 rfl ?_
            refine wt_aload_n hE wp_sk_choose_d67 rfl ?_
            refine wt_iload hE wp_sk_choose_d68 rfl ?_
            obtain ⟨q9, hq9, h⟩ := wt_bi h
            refine wt_callSi hE [.ref (wt_ad (wt_xw X) a3), .int s.1] wt_lm_sk_25 wt_ya_ap_look (wp_ap_look_ok (wt_lnE hA_a3) hd_a3 hq9) (by omega) rfl rfl (Nat.le_of_ble_eq_true rfl) (Nat.zero_le _) wp_sk_choose_d70 (fun hbq9 => ?_)
            obtain ⟨q10, hq10, h⟩ := wt_bi h
            refine wt_callVi hE [.int q3.1, .int q9.1] wt_lm_sk_58 wt_ya_sk_comesFirst (wp_sk_comesFirst_ok hD hq10) (by omega) (hD 76 (Nat.le_of_ble_eq_true rfl)) wt_L76 rfl rfl rfl (Nat.le_of_ble_eq_true rfl) (Nat.zero_le _) wp_sk_choose_d73 (fun hbq10 => ?_)
            refine wt_if_eq hE 83 wp_sk_choose_d76 rfl (fun c11 => ?_) (fun c11 => ?_)
            · have h := wt_ip c11 h
              refine wt_wk [true, true, true, true, true, true, true, false, false] rfl ?_
              exact wp_sk_choose_B83_ok hE hR hD hA_a3 hd_a3 hK6 h
            · have h := wt_in c11 h
              refine wt_wk [true, true, true, true, true, false, true, true, false] rfl ?_
              exact wp_sk_choose_B79_ok hE hR hD hA_a3 hd_a3 hK6 h
noncomputable def wp_sk_choose (n : Nat) (a3 : Nat) (x1 : Int32) (x2 : Int32) (x4 : Int32) (σ : wt_St) : Option (Int32 × wt_St) :=
  wt_it (wp_sk_choose_B6 n a3 x1 x2 x4) n ((-1 : Int32), (0 : Int32), σ)
set_option maxRecDepth 100000 in
set_option maxHeartbeats 4000000 in
theorem wp_sk_choose_ok {l : Launch} {w : wt_E} {n : Nat} {a3 : Nat} {x1 : Int32} {x2 : Int32} {x4 : Int32} (hD : ∀ i, i < 108 → wt_dom w i) (hA_a3 : wt_LAY[a3]? = some (0, wt_ln a3, [])) (hd_a3 : wt_dom w a3) {σ : wt_St} {q : Int32 × wt_St} (h : wp_sk_choose n a3 x1 x2 x4 σ = some q) : wt_Ctr l w wt_y_sk_choose prog_6_method_13_code 9 (some .int) 2 [.ref (wt_ad w 76), .int x1, .int x2, .ref (wt_ad w a3), .int x4] σ (some q.1) q.2 := by
  refine wt_ctr wt_pl_sk_choose rfl (Nat.le_of_ble_eq_true rfl) [some (.ref (wt_ad w 76)), some (.int x1), some (.int x2), some (.ref (wt_ad w a3)), some (.int x4), none, none, none, none] rfl ?_
  intro X hXl hXw hE hR
  subst hXl
  subst hXw
  have hE : wt_Ok X prog_6_method_13_code 9 "WornType$Stock" 2 0 := hE
  unfold wp_sk_choose at h
  refine wt_iconst hE (-1 : Int32) wp_sk_choose_d0 wt_ci_m1 ?_
  refine wt_istore hE [some (.ref (wt_ad (wt_xw X) 76)), some (.int x1), some (.int x2), some (.ref (wt_ad (wt_xw X) a3)), some (.int x4), some (.int (-1 : Int32)), none, none, none] wp_sk_choose_d1 (Nat.le_of_ble_eq_true rfl) rfl ?_
  refine wt_iconst hE (0 : Int32) wp_sk_choose_d3 wt_ci_0 ?_
  refine wt_istore hE [some (.ref (wt_ad (wt_xw X) 76)), some (.int x1), some (.int x2), some (.ref (wt_ad (wt_xw X) a3)), some (.int x4), some (.int (-1 : Int32)), some (.int (0 : Int32)), none, none] wp_sk_choose_d4 (Nat.le_of_ble_eq_true rfl) rfl ?_
  exact wt_it_ind (fun z => wt_V X 0 z.2.2 6 [some (.ref (wt_ad (wt_xw X) 76)), some (.int x1), some (.int x2), some (.ref (wt_ad (wt_xw X) a3)), some (.int x4), some (.int z.1), some (.int z.2.1), none, none] []) (fun K hK z h => wp_sk_choose_B6_ok hE hR hD hA_a3 hd_a3 hK h) n ((-1 : Int32), (0 : Int32), σ) h
def wb10m0_prog_6_method_14_code_r3 : List (List Nat) := [177] :: []
def wb10m0_prog_6_method_14_code_r2 : List (List Nat) := [128, 54, 5, 45, 21, 7, 45, 21, 7, 184, 0, 25, 28, 100, 184, 0, 66, 132, 6, 1, 167, 255, 196, 132, 4, 1, 167, 255, 177] :: wb10m0_prog_6_method_14_code_r3
def wb10m0_prog_6_method_14_code_r1 : List (List Nat) := [28, 45, 21, 5, 182, 0, 62, 54, 7, 21, 7, 2, 160, 0, 4, 177, 21, 5, 4, 21, 7, 21, 4, 16, 12, 104, 100, 120] :: wb10m0_prog_6_method_14_code_r2
def wb10m0_prog_6_method_14_code_r0 : List (List Nat) := [3, 54, 4, 21, 4, 43, 190, 162, 0, 78, 3, 54, 5, 3, 54, 6, 21, 6, 43, 21, 4, 46, 162, 0, 57, 42, 21, 4] :: wb10m0_prog_6_method_14_code_r1
set_option maxRecDepth 100000 in
theorem wb10m0_prog_6_method_14_code_c0 : wt_cs prog_6_method_14_code 0 wb10m0_prog_6_method_14_code_r0 := wt_cs_of (by decide +kernel)
theorem wb10m0_prog_6_method_14_code_c1 : wt_cs prog_6_method_14_code 28 wb10m0_prog_6_method_14_code_r1 := wt_cs_tl (m := 28) wb10m0_prog_6_method_14_code_c0 rfl rfl
theorem wb10m0_prog_6_method_14_code_c2 : wt_cs prog_6_method_14_code 56 wb10m0_prog_6_method_14_code_r2 := wt_cs_tl (m := 28) wb10m0_prog_6_method_14_code_c1 rfl rfl
theorem wb10m0_prog_6_method_14_code_c3 : wt_cs prog_6_method_14_code 85 wb10m0_prog_6_method_14_code_r3 := wt_cs_tl (m := 29) wb10m0_prog_6_method_14_code_c2 rfl rfl
theorem wp_sk_wear_d0 : decode prog_6_method_14_code 0 = .ok (.iconst 0, 1) := wt_op3 wb10m0_prog_6_method_14_code_c0 0 rfl rfl
theorem wp_sk_wear_d1 : decode prog_6_method_14_code 1 = .ok (.istore 4, 2) := wt_op54 wb10m0_prog_6_method_14_code_c0 1 rfl rfl
theorem wp_sk_wear_d3 : decode prog_6_method_14_code 3 = .ok (.iload 4, 2) := wt_op21 wb10m0_prog_6_method_14_code_c0 3 rfl rfl
theorem wp_sk_wear_d5 : decode prog_6_method_14_code 5 = .ok (.aload_n 1, 1) := wt_op43 wb10m0_prog_6_method_14_code_c0 5 rfl rfl
theorem wp_sk_wear_d6 : decode prog_6_method_14_code 6 = .ok (.arraylength, 1) := wt_op190 wb10m0_prog_6_method_14_code_c0 6 rfl rfl
theorem wp_sk_wear_d7 : decode prog_6_method_14_code 7 = .ok (.if_icmp .ge 78, 3) := wt_op162 wb10m0_prog_6_method_14_code_c0 7 rfl rfl rfl
theorem wp_sk_wear_d10 : decode prog_6_method_14_code 10 = .ok (.iconst 0, 1) := wt_op3 wb10m0_prog_6_method_14_code_c0 10 rfl rfl
theorem wp_sk_wear_d11 : decode prog_6_method_14_code 11 = .ok (.istore 5, 2) := wt_op54 wb10m0_prog_6_method_14_code_c0 11 rfl rfl
theorem wp_sk_wear_d13 : decode prog_6_method_14_code 13 = .ok (.iconst 0, 1) := wt_op3 wb10m0_prog_6_method_14_code_c0 13 rfl rfl
theorem wp_sk_wear_d14 : decode prog_6_method_14_code 14 = .ok (.istore 6, 2) := wt_op54 wb10m0_prog_6_method_14_code_c0 14 rfl rfl
theorem wp_sk_wear_d16 : decode prog_6_method_14_code 16 = .ok (.iload 6, 2) := wt_op21 wb10m0_prog_6_method_14_code_c0 16 rfl rfl
theorem wp_sk_wear_d18 : decode prog_6_method_14_code 18 = .ok (.aload_n 1, 1) := wt_op43 wb10m0_prog_6_method_14_code_c0 18 rfl rfl
theorem wp_sk_wear_d19 : decode prog_6_method_14_code 19 = .ok (.iload 4, 2) := wt_op21 wb10m0_prog_6_method_14_code_c0 19 rfl rfl
theorem wp_sk_wear_d21 : decode prog_6_method_14_code 21 = .ok (.iaload, 1) := wt_op46 wb10m0_prog_6_method_14_code_c0 21 rfl rfl
theorem wp_sk_wear_d22 : decode prog_6_method_14_code 22 = .ok (.if_icmp .ge 57, 3) := wt_op162 wb10m0_prog_6_method_14_code_c0 22 rfl rfl rfl
theorem wp_sk_wear_d25 : decode prog_6_method_14_code 25 = .ok (.aload_n 0, 1) := wt_op42 wb10m0_prog_6_method_14_code_c0 25 rfl rfl
theorem wp_sk_wear_d26 : decode prog_6_method_14_code 26 = .ok (.iload 4, 2) := wt_op21 wb10m0_prog_6_method_14_code_c0 26 rfl rfl
theorem wp_sk_wear_d28 : decode prog_6_method_14_code 28 = .ok (.iload_n 2, 1) := wt_op28 wb10m0_prog_6_method_14_code_c1 0 rfl rfl
theorem wp_sk_wear_d29 : decode prog_6_method_14_code 29 = .ok (.aload_n 3, 1) := wt_op45 wb10m0_prog_6_method_14_code_c1 1 rfl rfl
theorem wp_sk_wear_d30 : decode prog_6_method_14_code 30 = .ok (.iload 5, 2) := wt_op21 wb10m0_prog_6_method_14_code_c1 2 rfl rfl
theorem wp_sk_wear_d32 : decode prog_6_method_14_code 32 = .ok (.invokevirtual 62, 3) := wt_op182 wb10m0_prog_6_method_14_code_c1 4 rfl rfl rfl
theorem wp_sk_wear_d35 : decode prog_6_method_14_code 35 = .ok (.istore 7, 2) := wt_op54 wb10m0_prog_6_method_14_code_c1 7 rfl rfl
theorem wp_sk_wear_d37 : decode prog_6_method_14_code 37 = .ok (.iload 7, 2) := wt_op21 wb10m0_prog_6_method_14_code_c1 9 rfl rfl
theorem wp_sk_wear_d39 : decode prog_6_method_14_code 39 = .ok (.iconst (-1), 1) := wt_op2 wb10m0_prog_6_method_14_code_c1 11 rfl rfl
theorem wp_sk_wear_d40 : decode prog_6_method_14_code 40 = .ok (.if_icmp .ne 4, 3) := wt_op160 wb10m0_prog_6_method_14_code_c1 12 rfl rfl rfl
theorem wp_sk_wear_d43 : decode prog_6_method_14_code 43 = .ok (.return_, 1) := wt_op177 wb10m0_prog_6_method_14_code_c1 15 rfl rfl
theorem wp_sk_wear_d44 : decode prog_6_method_14_code 44 = .ok (.iload 5, 2) := wt_op21 wb10m0_prog_6_method_14_code_c1 16 rfl rfl
theorem wp_sk_wear_d46 : decode prog_6_method_14_code 46 = .ok (.iconst 1, 1) := wt_op4 wb10m0_prog_6_method_14_code_c1 18 rfl rfl
theorem wp_sk_wear_d47 : decode prog_6_method_14_code 47 = .ok (.iload 7, 2) := wt_op21 wb10m0_prog_6_method_14_code_c1 19 rfl rfl
theorem wp_sk_wear_d49 : decode prog_6_method_14_code 49 = .ok (.iload 4, 2) := wt_op21 wb10m0_prog_6_method_14_code_c1 21 rfl rfl
theorem wp_sk_wear_d51 : decode prog_6_method_14_code 51 = .ok (.bipush 12, 2) := wt_op16 wb10m0_prog_6_method_14_code_c1 23 rfl rfl rfl
theorem wp_sk_wear_d53 : decode prog_6_method_14_code 53 = .ok (.imul, 1) := wt_op104 wb10m0_prog_6_method_14_code_c1 25 rfl rfl
theorem wp_sk_wear_d54 : decode prog_6_method_14_code 54 = .ok (.isub, 1) := wt_op100 wb10m0_prog_6_method_14_code_c1 26 rfl rfl
theorem wp_sk_wear_d55 : decode prog_6_method_14_code 55 = .ok (.ishl, 1) := wt_op120 wb10m0_prog_6_method_14_code_c1 27 rfl rfl
theorem wp_sk_wear_d56 : decode prog_6_method_14_code 56 = .ok (.ior, 1) := wt_op128 wb10m0_prog_6_method_14_code_c2 0 rfl rfl
theorem wp_sk_wear_d57 : decode prog_6_method_14_code 57 = .ok (.istore 5, 2) := wt_op54 wb10m0_prog_6_method_14_code_c2 1 rfl rfl
theorem wp_sk_wear_d59 : decode prog_6_method_14_code 59 = .ok (.aload_n 3, 1) := wt_op45 wb10m0_prog_6_method_14_code_c2 3 rfl rfl
theorem wp_sk_wear_d60 : decode prog_6_method_14_code 60 = .ok (.iload 7, 2) := wt_op21 wb10m0_prog_6_method_14_code_c2 4 rfl rfl
theorem wp_sk_wear_d62 : decode prog_6_method_14_code 62 = .ok (.aload_n 3, 1) := wt_op45 wb10m0_prog_6_method_14_code_c2 6 rfl rfl
theorem wp_sk_wear_d63 : decode prog_6_method_14_code 63 = .ok (.iload 7, 2) := wt_op21 wb10m0_prog_6_method_14_code_c2 7 rfl rfl
theorem wp_sk_wear_d65 : decode prog_6_method_14_code 65 = .ok (.invokestatic 25, 3) := wt_op184 wb10m0_prog_6_method_14_code_c2 9 rfl rfl rfl
theorem wp_sk_wear_d68 : decode prog_6_method_14_code 68 = .ok (.iload_n 2, 1) := wt_op28 wb10m0_prog_6_method_14_code_c2 12 rfl rfl
theorem wp_sk_wear_d69 : decode prog_6_method_14_code 69 = .ok (.isub, 1) := wt_op100 wb10m0_prog_6_method_14_code_c2 13 rfl rfl
theorem wp_sk_wear_d70 : decode prog_6_method_14_code 70 = .ok (.invokestatic 66, 3) := wt_op184 wb10m0_prog_6_method_14_code_c2 14 rfl rfl rfl
theorem wp_sk_wear_d73 : decode prog_6_method_14_code 73 = .ok (.iinc 6 1, 3) := wt_op132 wb10m0_prog_6_method_14_code_c2 17 rfl rfl rfl
theorem wp_sk_wear_d76 : decode prog_6_method_14_code 76 = .ok (.goto (-60), 3) := wt_op167 wb10m0_prog_6_method_14_code_c2 20 rfl rfl rfl
theorem wp_sk_wear_d79 : decode prog_6_method_14_code 79 = .ok (.iinc 4 1, 3) := wt_op132 wb10m0_prog_6_method_14_code_c2 23 rfl rfl rfl
theorem wp_sk_wear_d82 : decode prog_6_method_14_code 82 = .ok (.goto (-79), 3) := wt_op167 wb10m0_prog_6_method_14_code_c2 26 rfl rfl rfl
theorem wp_sk_wear_d85 : decode prog_6_method_14_code 85 = .ok (.return_, 1) := wt_op177 wb10m0_prog_6_method_14_code_c3 0 rfl rfl
noncomputable def wp_sk_wear_B16 (n : Nat) (a1 : Nat) (a3 : Nat) (x2 : Int32) (x4 : Int32) (K3 : Int32 × wt_St → Option (wt_St)) (K16 : Int32 × Int32 × wt_St → Option (wt_St)) (s : Int32 × Int32 × wt_St) : Option (wt_St) :=
  if x4 < 0 ∨ (wt_ln a1) ≤ Int32.toNatClampNeg x4 then none else
  if (wt_ga s.2.2 a1 (Int32.toNatClampNeg x4)) ≤ s.2.1 then
    K3 ((x4 + (1 : Int32)), s.2.2)
  else
    (wp_sk_choose n a3 x4 x2 s.1 s.2.2).bind fun q4 =>
    if q4.1 = (-1 : Int32) then
      some q4.2
    else
      (wp_ap_look n a3 q4.1 q4.2).bind fun q6 =>
      (wp_ap_put n a3 q4.1 (q6.1 - x2) q6.2).bind fun q7 =>
      K16 ((s.1 ||| ((1 : Int32) <<< ((q4.1 - (x4 * (12 : Int32))) &&& 31))), (s.2.1 + (1 : Int32)), q7)
set_option maxRecDepth 100000 in
set_option maxHeartbeats 4000000 in
theorem wp_sk_wear_B16_ok  {a1 : Nat} {a3 : Nat} {x2 : Int32} {x4 : Int32} {X : wt_X} {n : Nat} {res : wt_St} (hE : wt_Ok X prog_6_method_14_code 8 "WornType$Stock" 3 0) (hR : wt_Rt X none none res) (hD : ∀ i, i < 108 → wt_dom (wt_xw X) i) (hA_a1 : wt_LAY[a1]? = some (0, wt_ln a1, [])) (hd_a1 : wt_dom (wt_xw X) a1) (hA_a3 : wt_LAY[a3]? = some (0, wt_ln a3, [])) (hd_a3 : wt_dom (wt_xw X) a3) {K3 : Int32 × wt_St → Option (wt_St)} (hK3 : ∀ s : Int32 × wt_St, K3 s = some res → wt_V X 0 s.2 3 [some (.ref (wt_ad (wt_xw X) 76)), some (.ref (wt_ad (wt_xw X) a1)), some (.int x2), some (.ref (wt_ad (wt_xw X) a3)), some (.int s.1), none, none, none] []) {K16 : Int32 × Int32 × wt_St → Option (wt_St)} (hK16 : ∀ s : Int32 × Int32 × wt_St, K16 s = some res → wt_V X 0 s.2.2 16 [some (.ref (wt_ad (wt_xw X) 76)), some (.ref (wt_ad (wt_xw X) a1)), some (.int x2), some (.ref (wt_ad (wt_xw X) a3)), some (.int x4), some (.int s.1), some (.int s.2.1), none] []) {s : Int32 × Int32 × wt_St} (h : wp_sk_wear_B16 n a1 a3 x2 x4 K3 K16 s = some res) : wt_V X 0 s.2.2 16 [some (.ref (wt_ad (wt_xw X) 76)), some (.ref (wt_ad (wt_xw X) a1)), some (.int x2), some (.ref (wt_ad (wt_xw X) a3)), some (.int x4), some (.int s.1), some (.int s.2.1), none] [] := by
  unfold wp_sk_wear_B16 at h
  refine wt_iload hE wp_sk_wear_d16 rfl ?_
  refine wt_aload_n hE wp_sk_wear_d18 rfl ?_
  refine wt_iload hE wp_sk_wear_d19 rfl ?_
  obtain ⟨g2, h⟩ := wt_gd h
  refine wt_iald hE hd_a1 hA_a1 g2 wp_sk_wear_d21 ?_
  refine wt_icmp_ge hE 79 wp_sk_wear_d22 rfl (fun c3 => ?_) (fun c3 => ?_)
  · have h := wt_ip c3 h
    refine wt_iinc hE (x4 + (1 : Int32)) [some (.ref (wt_ad (wt_xw X) 76)), some (.ref (wt_ad (wt_xw X) a1)), some (.int x2), some (.ref (wt_ad (wt_xw X) a3)), some (.int (x4 + (1 : Int32))), some (.int s.1), some (.int s.2.1), none] wp_sk_wear_d79 (by decide) rfl rfl rfl ?_
    refine wt_goto hE 3 wp_sk_wear_d82 rfl ?_
    refine wt_wk [true, true, true, true, true, false, false, true] rfl ?_
    exact hK3 ((x4 + (1 : Int32)), s.2.2) h
  · have h := wt_in c3 h
    refine wt_aload_n hE wp_sk_wear_d25 rfl ?_
    refine wt_iload hE wp_sk_wear_d26 rfl ?_
    refine wt_iload_n hE wp_sk_wear_d28 rfl ?_
    refine wt_aload_n hE wp_sk_wear_d29 rfl ?_
    refine wt_iload hE wp_sk_wear_d30 rfl ?_
    obtain ⟨q4, hq4, h⟩ := wt_bi h
    refine wt_callVi hE [.int x4, .int x2, .ref (wt_ad (wt_xw X) a3), .int s.1] wt_lm_sk_62 wt_ya_sk_choose (wp_sk_choose_ok hD (wt_lnE hA_a3) hd_a3 hq4) (by omega) (hD 76 (Nat.le_of_ble_eq_true rfl)) wt_L76 rfl rfl rfl (Nat.le_of_ble_eq_true rfl) (Nat.zero_le _) wp_sk_wear_d32 (fun hbq4 => ?_)
    refine wt_istore hE [some (.ref (wt_ad (wt_xw X) 76)), some (.ref (wt_ad (wt_xw X) a1)), some (.int x2), some (.ref (wt_ad (wt_xw X) a3)), some (.int x4), some (.int s.1), some (.int s.2.1), some (.int q4.1)] wp_sk_wear_d35 (Nat.le_of_ble_eq_true rfl) rfl ?_
    refine wt_iload hE wp_sk_wear_d37 rfl ?_
    refine wt_iconst hE (-1 : Int32) wp_sk_wear_d39 wt_ci_m1 ?_
    refine wt_icmp_ne hE 44 wp_sk_wear_d40 rfl (fun c5 => ?_) (fun c5 => ?_)
    · have h := wt_in c5 h
      refine wt_iload hE wp_sk_wear_d44 rfl ?_
      refine wt_iconst hE (1 : Int32) wp_sk_wear_d46 wt_ci_1 ?_
      refine wt_iload hE wp_sk_wear_d47 rfl ?_
      refine wt_iload hE wp_sk_wear_d49 rfl ?_
      refine wt_bipush hE (12 : Int32) wp_sk_wear_d51 wt_cb_12 ?_
      refine wt_imul hE wp_sk_wear_d53 ?_
      refine wt_isub hE wp_sk_wear_d54 ?_
      refine wt_ishl hE wp_sk_wear_d55 ?_
      refine wt_ior hE wp_sk_wear_d56 ?_
      refine wt_istore hE [some (.ref (wt_ad (wt_xw X) 76)), some (.ref (wt_ad (wt_xw X) a1)), some (.int x2), some (.ref (wt_ad (wt_xw X) a3)), some (.int x4), some (.int (s.1 ||| ((1 : Int32) <<< ((q4.1 - (x4 * (12 : Int32))) &&& 31)))), some (.int s.2.1), some (.int q4.1)] wp_sk_wear_d57 (Nat.le_of_ble_eq_true rfl) rfl ?_
      refine wt_aload_n hE wp_sk_wear_d59 rfl ?_
      refine wt_iload hE wp_sk_wear_d60 rfl ?_
      refine wt_aload_n hE wp_sk_wear_d62 rfl ?_
      refine wt_iload hE wp_sk_wear_d63 rfl ?_
      obtain ⟨q6, hq6, h⟩ := wt_bi h
      refine wt_callSi hE [.ref (wt_ad (wt_xw X) a3), .int q4.1] wt_lm_sk_25 wt_ya_ap_look (wp_ap_look_ok (wt_lnE hA_a3) hd_a3 hq6) (by omega) rfl rfl (Nat.le_of_ble_eq_true rfl) (Nat.zero_le _) wp_sk_wear_d65 (fun hbq6 => ?_)
      refine wt_iload_n hE wp_sk_wear_d68 rfl ?_
      refine wt_isub hE wp_sk_wear_d69 ?_
      obtain ⟨q7, hq7, h⟩ := wt_bi h
      refine wt_callSv hE [.ref (wt_ad (wt_xw X) a3), .int q4.1, .int (q6.1 - x2)] wt_lm_sk_66 wt_ya_ap_put (wp_ap_put_ok (wt_lnE hA_a3) hd_a3 hq7) (by omega) rfl rfl (Nat.le_of_ble_eq_true rfl) (Nat.zero_le _) wp_sk_wear_d70 ?_
      refine wt_iinc hE (s.2.1 + (1 : Int32)) [some (.ref (wt_ad (wt_xw X) 76)), some (.ref (wt_ad (wt_xw X) a1)), some (.int x2), some (.ref (wt_ad (wt_xw X) a3)), some (.int x4), some (.int (s.1 ||| ((1 : Int32) <<< ((q4.1 - (x4 * (12 : Int32))) &&& 31)))), some (.int (s.2.1 + (1 : Int32))), some (.int q4.1)] wp_sk_wear_d73 (by decide) rfl rfl rfl ?_
      refine wt_goto hE 16 wp_sk_wear_d76 rfl ?_
      refine wt_wk [true, true, true, true, true, true, true, false] rfl ?_
      exact hK16 ((s.1 ||| ((1 : Int32) <<< ((q4.1 - (x4 * (12 : Int32))) &&& 31))), (s.2.1 + (1 : Int32)), q7) h
    · have h := wt_ip c5 h
      cases h
      exact wt_vret hE hR wp_sk_wear_d43
noncomputable def wp_sk_wear_B3 (n : Nat) (a1 : Nat) (a3 : Nat) (x2 : Int32) (K3 : Int32 × wt_St → Option (wt_St)) (s : Int32 × wt_St) : Option (wt_St) :=
  if (nI (wt_ln a1)) ≤ s.1 then
    some s.2
  else
    wt_it (wp_sk_wear_B16 n a1 a3 x2 s.1 K3) n ((0 : Int32), (0 : Int32), s.2)
set_option maxRecDepth 100000 in
set_option maxHeartbeats 4000000 in
theorem wp_sk_wear_B3_ok  {a1 : Nat} {a3 : Nat} {x2 : Int32} {X : wt_X} {n : Nat} {res : wt_St} (hE : wt_Ok X prog_6_method_14_code 8 "WornType$Stock" 3 0) (hR : wt_Rt X none none res) (hD : ∀ i, i < 108 → wt_dom (wt_xw X) i) (hA_a1 : wt_LAY[a1]? = some (0, wt_ln a1, [])) (hd_a1 : wt_dom (wt_xw X) a1) (hA_a3 : wt_LAY[a3]? = some (0, wt_ln a3, [])) (hd_a3 : wt_dom (wt_xw X) a3) {K3 : Int32 × wt_St → Option (wt_St)} (hK3 : ∀ s : Int32 × wt_St, K3 s = some res → wt_V X 0 s.2 3 [some (.ref (wt_ad (wt_xw X) 76)), some (.ref (wt_ad (wt_xw X) a1)), some (.int x2), some (.ref (wt_ad (wt_xw X) a3)), some (.int s.1), none, none, none] []) {s : Int32 × wt_St} (h : wp_sk_wear_B3 n a1 a3 x2 K3 s = some res) : wt_V X 0 s.2 3 [some (.ref (wt_ad (wt_xw X) 76)), some (.ref (wt_ad (wt_xw X) a1)), some (.int x2), some (.ref (wt_ad (wt_xw X) a3)), some (.int s.1), none, none, none] [] := by
  unfold wp_sk_wear_B3 at h
  refine wt_iload hE wp_sk_wear_d3 rfl ?_
  refine wt_aload_n hE wp_sk_wear_d5 rfl ?_
  refine wt_alen hE (nI (wt_ln a1)) hd_a1 hA_a1 rfl wp_sk_wear_d6 ?_
  refine wt_icmp_ge hE 85 wp_sk_wear_d7 rfl (fun c1 => ?_) (fun c1 => ?_)
  · have h := wt_ip c1 h
    cases h
    exact wt_vret hE hR wp_sk_wear_d85
  · have h := wt_in c1 h
    refine wt_iconst hE (0 : Int32) wp_sk_wear_d10 wt_ci_0 ?_
    refine wt_istore hE [some (.ref (wt_ad (wt_xw X) 76)), some (.ref (wt_ad (wt_xw X) a1)), some (.int x2), some (.ref (wt_ad (wt_xw X) a3)), some (.int s.1), some (.int (0 : Int32)), none, none] wp_sk_wear_d11 (Nat.le_of_ble_eq_true rfl) rfl ?_
    refine wt_iconst hE (0 : Int32) wp_sk_wear_d13 wt_ci_0 ?_
    refine wt_istore hE [some (.ref (wt_ad (wt_xw X) 76)), some (.ref (wt_ad (wt_xw X) a1)), some (.int x2), some (.ref (wt_ad (wt_xw X) a3)), some (.int s.1), some (.int (0 : Int32)), some (.int (0 : Int32)), none] wp_sk_wear_d14 (Nat.le_of_ble_eq_true rfl) rfl ?_
    exact wt_it_ind (fun z => wt_V X 0 z.2.2 16 [some (.ref (wt_ad (wt_xw X) 76)), some (.ref (wt_ad (wt_xw X) a1)), some (.int x2), some (.ref (wt_ad (wt_xw X) a3)), some (.int s.1), some (.int z.1), some (.int z.2.1), none] []) (fun K hK z h => wp_sk_wear_B16_ok hE hR hD hA_a1 hd_a1 hA_a3 hd_a3 hK3 hK h) n ((0 : Int32), (0 : Int32), s.2) h
noncomputable def wp_sk_wear (n : Nat) (a1 : Nat) (a3 : Nat) (x2 : Int32) (σ : wt_St) : Option (wt_St) :=
  wt_it (wp_sk_wear_B3 n a1 a3 x2) n ((0 : Int32), σ)
set_option maxRecDepth 100000 in
set_option maxHeartbeats 4000000 in
theorem wp_sk_wear_ok {l : Launch} {w : wt_E} {n : Nat} {a1 : Nat} {a3 : Nat} {x2 : Int32} (hD : ∀ i, i < 108 → wt_dom w i) (hA_a1 : wt_LAY[a1]? = some (0, wt_ln a1, [])) (hd_a1 : wt_dom w a1) (hA_a3 : wt_LAY[a3]? = some (0, wt_ln a3, [])) (hd_a3 : wt_dom w a3) {σ : wt_St} {q : wt_St} (h : wp_sk_wear n a1 a3 x2 σ = some q) : wt_Ctr l w wt_y_sk_wear prog_6_method_14_code 8 none 3 [.ref (wt_ad w 76), .ref (wt_ad w a1), .int x2, .ref (wt_ad w a3)] σ none q := by
  refine wt_ctr wt_pl_sk_wear rfl (Nat.le_of_ble_eq_true rfl) [some (.ref (wt_ad w 76)), some (.ref (wt_ad w a1)), some (.int x2), some (.ref (wt_ad w a3)), none, none, none, none] rfl ?_
  intro X hXl hXw hE hR
  subst hXl
  subst hXw
  have hE : wt_Ok X prog_6_method_14_code 8 "WornType$Stock" 3 0 := hE
  unfold wp_sk_wear at h
  refine wt_iconst hE (0 : Int32) wp_sk_wear_d0 wt_ci_0 ?_
  refine wt_istore hE [some (.ref (wt_ad (wt_xw X) 76)), some (.ref (wt_ad (wt_xw X) a1)), some (.int x2), some (.ref (wt_ad (wt_xw X) a3)), some (.int (0 : Int32)), none, none, none] wp_sk_wear_d1 (Nat.le_of_ble_eq_true rfl) rfl ?_
  exact wt_it_ind (fun z => wt_V X 0 z.2 3 [some (.ref (wt_ad (wt_xw X) 76)), some (.ref (wt_ad (wt_xw X) a1)), some (.int x2), some (.ref (wt_ad (wt_xw X) a3)), some (.int z.1), none, none, none] []) (fun K hK z h => wp_sk_wear_B3_ok hE hR hD hA_a1 hd_a1 hA_a3 hd_a3 hK h) n ((0 : Int32), σ) h
