def wb15m5_prog_13_method_82_code_r1 : List (List Nat) := [42, 28, 182, 1, 119, 167, 0, 4, 27, 60, 132, 2, 1, 167, 255, 228, 27, 172] :: []
def wb15m5_prog_13_method_82_code_r0 : List (List Nat) := [42, 3, 181, 0, 151, 42, 3, 182, 1, 119, 60, 4, 61, 28, 16, 26, 162, 0, 28, 42, 28, 182, 1, 119, 27, 162, 0, 11] :: wb15m5_prog_13_method_82_code_r1
set_option maxRecDepth 100000 in
theorem wb15m5_prog_13_method_82_code_c0 : wt_cs prog_13_method_82_code 0 wb15m5_prog_13_method_82_code_r0 := wt_cs_of (by decide +kernel)
theorem wb15m5_prog_13_method_82_code_c1 : wt_cs prog_13_method_82_code 28 wb15m5_prog_13_method_82_code_r1 := wt_cs_tl (m := 28) wb15m5_prog_13_method_82_code_c0 rfl rfl
theorem wp_md_bound_d0 : decode prog_13_method_82_code 0 = .ok (.aload_n 0, 1) := wt_op42 wb15m5_prog_13_method_82_code_c0 0 rfl rfl
theorem wp_md_bound_d1 : decode prog_13_method_82_code 1 = .ok (.iconst 0, 1) := wt_op3 wb15m5_prog_13_method_82_code_c0 1 rfl rfl
theorem wp_md_bound_d2 : decode prog_13_method_82_code 2 = .ok (.putfield 151, 3) := wt_op181 wb15m5_prog_13_method_82_code_c0 2 rfl rfl rfl
theorem wp_md_bound_d5 : decode prog_13_method_82_code 5 = .ok (.aload_n 0, 1) := wt_op42 wb15m5_prog_13_method_82_code_c0 5 rfl rfl
theorem wp_md_bound_d6 : decode prog_13_method_82_code 6 = .ok (.iconst 0, 1) := wt_op3 wb15m5_prog_13_method_82_code_c0 6 rfl rfl
theorem wp_md_bound_d7 : decode prog_13_method_82_code 7 = .ok (.invokevirtual 375, 3) := wt_op182 wb15m5_prog_13_method_82_code_c0 7 rfl rfl rfl
theorem wp_md_bound_d10 : decode prog_13_method_82_code 10 = .ok (.istore_n 1, 1) := wt_op60 wb15m5_prog_13_method_82_code_c0 10 rfl rfl
theorem wp_md_bound_d11 : decode prog_13_method_82_code 11 = .ok (.iconst 1, 1) := wt_op4 wb15m5_prog_13_method_82_code_c0 11 rfl rfl
theorem wp_md_bound_d12 : decode prog_13_method_82_code 12 = .ok (.istore_n 2, 1) := wt_op61 wb15m5_prog_13_method_82_code_c0 12 rfl rfl
theorem wp_md_bound_d13 : decode prog_13_method_82_code 13 = .ok (.iload_n 2, 1) := wt_op28 wb15m5_prog_13_method_82_code_c0 13 rfl rfl
theorem wp_md_bound_d14 : decode prog_13_method_82_code 14 = .ok (.bipush 26, 2) := wt_op16 wb15m5_prog_13_method_82_code_c0 14 rfl rfl rfl
theorem wp_md_bound_d16 : decode prog_13_method_82_code 16 = .ok (.if_icmp .ge 28, 3) := wt_op162 wb15m5_prog_13_method_82_code_c0 16 rfl rfl rfl
theorem wp_md_bound_d19 : decode prog_13_method_82_code 19 = .ok (.aload_n 0, 1) := wt_op42 wb15m5_prog_13_method_82_code_c0 19 rfl rfl
theorem wp_md_bound_d20 : decode prog_13_method_82_code 20 = .ok (.iload_n 2, 1) := wt_op28 wb15m5_prog_13_method_82_code_c0 20 rfl rfl
theorem wp_md_bound_d21 : decode prog_13_method_82_code 21 = .ok (.invokevirtual 375, 3) := wt_op182 wb15m5_prog_13_method_82_code_c0 21 rfl rfl rfl
theorem wp_md_bound_d24 : decode prog_13_method_82_code 24 = .ok (.iload_n 1, 1) := wt_op27 wb15m5_prog_13_method_82_code_c0 24 rfl rfl
theorem wp_md_bound_d25 : decode prog_13_method_82_code 25 = .ok (.if_icmp .ge 11, 3) := wt_op162 wb15m5_prog_13_method_82_code_c0 25 rfl rfl rfl
theorem wp_md_bound_d28 : decode prog_13_method_82_code 28 = .ok (.aload_n 0, 1) := wt_op42 wb15m5_prog_13_method_82_code_c1 0 rfl rfl
theorem wp_md_bound_d29 : decode prog_13_method_82_code 29 = .ok (.iload_n 2, 1) := wt_op28 wb15m5_prog_13_method_82_code_c1 1 rfl rfl
theorem wp_md_bound_d30 : decode prog_13_method_82_code 30 = .ok (.invokevirtual 375, 3) := wt_op182 wb15m5_prog_13_method_82_code_c1 2 rfl rfl rfl
theorem wp_md_bound_d33 : decode prog_13_method_82_code 33 = .ok (.goto 4, 3) := wt_op167 wb15m5_prog_13_method_82_code_c1 5 rfl rfl rfl
theorem wp_md_bound_d36 : decode prog_13_method_82_code 36 = .ok (.iload_n 1, 1) := wt_op27 wb15m5_prog_13_method_82_code_c1 8 rfl rfl
theorem wp_md_bound_d37 : decode prog_13_method_82_code 37 = .ok (.istore_n 1, 1) := wt_op60 wb15m5_prog_13_method_82_code_c1 9 rfl rfl
theorem wp_md_bound_d38 : decode prog_13_method_82_code 38 = .ok (.iinc 2 1, 3) := wt_op132 wb15m5_prog_13_method_82_code_c1 10 rfl rfl rfl
theorem wp_md_bound_d41 : decode prog_13_method_82_code 41 = .ok (.goto (-28), 3) := wt_op167 wb15m5_prog_13_method_82_code_c1 13 rfl rfl rfl
theorem wp_md_bound_d44 : decode prog_13_method_82_code 44 = .ok (.iload_n 1, 1) := wt_op27 wb15m5_prog_13_method_82_code_c1 16 rfl rfl
theorem wp_md_bound_d45 : decode prog_13_method_82_code 45 = .ok (.ireturn, 1) := wt_op172 wb15m5_prog_13_method_82_code_c1 17 rfl rfl
noncomputable def wp_md_bound_B37 (n : Nat) (x2 : Int32) (K13 : Int32 × Int32 × wt_St → Option (Int32 × wt_St)) (y0 : Int32) (σ : wt_St) : Option (Int32 × wt_St) :=
  K13 (y0, (x2 + (1 : Int32)), σ)
set_option maxRecDepth 100000 in
set_option maxHeartbeats 4000000 in
theorem wp_md_bound_B37_ok  {x2 : Int32} {X : wt_X} {n : Nat} {res : Int32 × wt_St} (hE : wt_Ok X prog_13_method_82_code 3 "WornTypeModel" 3 0) (hR : wt_Rt X (some .int) (some res.1) res.2) (hD : ∀ i, 108 ≤ i → i < 321 → wt_dom (wt_xw X) i)  {K13 : Int32 × Int32 × wt_St → Option (Int32 × wt_St)} (hK13 : ∀ s : Int32 × Int32 × wt_St, K13 s = some res → wt_V X 0 s.2.2 13 [some (.ref (wt_ad (wt_xw X) 108)), some (.int s.1), some (.int s.2.1)] []) {σ : wt_St} {y0 : Int32} (h : wp_md_bound_B37 n x2 K13 y0 σ = some res) : wt_V X 0 σ 37 [some (.ref (wt_ad (wt_xw X) 108)), none, some (.int x2)] [.int y0] := by
  unfold wp_md_bound_B37 at h
  refine wt_istore_n hE [some (.ref (wt_ad (wt_xw X) 108)), some (.int y0), some (.int x2)] wp_md_bound_d37 (by decide) rfl ?_
  refine wt_iinc hE (x2 + (1 : Int32)) [some (.ref (wt_ad (wt_xw X) 108)), some (.int y0), some (.int (x2 + (1 : Int32)))] wp_md_bound_d38 (by decide) rfl rfl rfl ?_
  refine wt_goto hE 13 wp_md_bound_d41 rfl ?_
  exact hK13 (y0, (x2 + (1 : Int32)), σ) h
noncomputable def wp_md_bound_B13 (n : Nat) (K13 : Int32 × Int32 × wt_St → Option (Int32 × wt_St)) (s : Int32 × Int32 × wt_St) : Option (Int32 × wt_St) :=
  if (26 : Int32) ≤ s.2.1 then
    some (s.1, s.2.2)
  else
    (wp_md_boundOf n s.2.1 s.2.2).bind fun q3 =>
    if s.1 ≤ q3.1 then
      wp_md_bound_B37 n s.2.1 K13 s.1 q3.2
    else
      (wp_md_boundOf n s.2.1 q3.2).bind fun q5 =>
      wp_md_bound_B37 n s.2.1 K13 q5.1 q5.2
set_option maxRecDepth 100000 in
set_option maxHeartbeats 4000000 in
theorem wp_md_bound_B13_ok  {X : wt_X} {n : Nat} {res : Int32 × wt_St} (hE : wt_Ok X prog_13_method_82_code 3 "WornTypeModel" 3 0) (hR : wt_Rt X (some .int) (some res.1) res.2) (hD : ∀ i, 108 ≤ i → i < 321 → wt_dom (wt_xw X) i)  {K13 : Int32 × Int32 × wt_St → Option (Int32 × wt_St)} (hK13 : ∀ s : Int32 × Int32 × wt_St, K13 s = some res → wt_V X 0 s.2.2 13 [some (.ref (wt_ad (wt_xw X) 108)), some (.int s.1), some (.int s.2.1)] []) {s : Int32 × Int32 × wt_St} (h : wp_md_bound_B13 n K13 s = some res) : wt_V X 0 s.2.2 13 [some (.ref (wt_ad (wt_xw X) 108)), some (.int s.1), some (.int s.2.1)] [] := by
  unfold wp_md_bound_B13 at h
  refine wt_iload_n hE wp_md_bound_d13 rfl ?_
  refine wt_bipush hE (26 : Int32) wp_md_bound_d14 wt_cb_26 ?_
  refine wt_icmp_ge hE 44 wp_md_bound_d16 rfl (fun c2 => ?_) (fun c2 => ?_)
  · have h := wt_ip c2 h
    refine wt_iload_n hE wp_md_bound_d44 rfl ?_
    cases h
    exact wt_iret hE hR wp_md_bound_d45
  · have h := wt_in c2 h
    refine wt_aload_n hE wp_md_bound_d19 rfl ?_
    refine wt_iload_n hE wp_md_bound_d20 rfl ?_
    obtain ⟨q3, hq3, h⟩ := wt_bi h
    refine wt_callVi hE [.int s.2.1] wt_lm_md_375 wt_ya_md_boundOf (wp_md_boundOf_ok hD hq3) (by omega) (hD 108 (by decide) (by decide)) wt_L108 rfl rfl rfl (Nat.le_of_ble_eq_true rfl) (Nat.zero_le _) wp_md_bound_d21 (fun hbq3 => ?_)
    refine wt_iload_n hE wp_md_bound_d24 rfl ?_
    refine wt_icmp_ge hE 36 wp_md_bound_d25 rfl (fun c4 => ?_) (fun c4 => ?_)
    · have h := wt_ip c4 h
      refine wt_iload_n hE wp_md_bound_d36 rfl ?_
      refine wt_wk [true, false, true] rfl ?_
      exact wp_md_bound_B37_ok hE hR hD hK13 h
    · have h := wt_in c4 h
      refine wt_aload_n hE wp_md_bound_d28 rfl ?_
      refine wt_iload_n hE wp_md_bound_d29 rfl ?_
      obtain ⟨q5, hq5, h⟩ := wt_bi h
      refine wt_callVi hE [.int s.2.1] wt_lm_md_375 wt_ya_md_boundOf (wp_md_boundOf_ok hD hq5) (by omega) (hD 108 (by decide) (by decide)) wt_L108 rfl rfl rfl (Nat.le_of_ble_eq_true rfl) (Nat.zero_le _) wp_md_bound_d30 (fun hbq5 => ?_)
      refine wt_goto hE 37 wp_md_bound_d33 rfl ?_
      refine wt_wk [true, false, true] rfl ?_
      exact wp_md_bound_B37_ok hE hR hD hK13 h
noncomputable def wp_md_bound (n : Nat) (σ : wt_St) : Option (Int32 × wt_St) :=
  (wp_md_boundOf n (0 : Int32) (wt_sf σ 108 0 (0 : Int32))).bind fun q1 =>
  wt_it (wp_md_bound_B13 n) n (q1.1, (1 : Int32), q1.2)
set_option maxRecDepth 100000 in
set_option maxHeartbeats 4000000 in
theorem wp_md_bound_ok {l : Launch} {w : wt_E} {n : Nat} (hD : ∀ i, 108 ≤ i → i < 321 → wt_dom w i) {σ : wt_St} {q : Int32 × wt_St} (h : wp_md_bound n σ = some q) : wt_Ctr l w wt_y_md_bound prog_13_method_82_code 3 (some .int) 3 [.ref (wt_ad w 108)] σ (some q.1) q.2 := by
  refine wt_ctr wt_pl_md_bound rfl (Nat.le_of_ble_eq_true rfl) [some (.ref (wt_ad w 108)), none, none] rfl ?_
  intro X hXl hXw hE hR
  subst hXl
  subst hXw
  have hE : wt_Ok X prog_13_method_82_code 3 "WornTypeModel" 3 0 := hE
  unfold wp_md_bound at h
  refine wt_aload_n hE wp_md_bound_d0 rfl ?_
  refine wt_iconst hE (0 : Int32) wp_md_bound_d1 wt_ci_0 ?_
  refine wt_puti hE wt_lf_md_151 (hD 108 (by decide) (by decide)) wt_L108 rfl (fun q hq => by cases hq; rfl) wp_md_bound_d2 ?_
  refine wt_aload_n hE wp_md_bound_d5 rfl ?_
  refine wt_iconst hE (0 : Int32) wp_md_bound_d6 wt_ci_0 ?_
  obtain ⟨q1, hq1, h⟩ := wt_bi h
  refine wt_callVi hE [.int (0 : Int32)] wt_lm_md_375 wt_ya_md_boundOf (wp_md_boundOf_ok hD hq1) (by omega) (hD 108 (by decide) (by decide)) wt_L108 rfl rfl rfl (Nat.le_of_ble_eq_true rfl) (Nat.zero_le _) wp_md_bound_d7 (fun hbq1 => ?_)
  refine wt_istore_n hE [some (.ref (wt_ad (wt_xw X) 108)), some (.int q1.1), none] wp_md_bound_d10 (by decide) rfl ?_
  refine wt_iconst hE (1 : Int32) wp_md_bound_d11 wt_ci_1 ?_
  refine wt_istore_n hE [some (.ref (wt_ad (wt_xw X) 108)), some (.int q1.1), some (.int (1 : Int32))] wp_md_bound_d12 (by decide) rfl ?_
  exact wt_it_ind (fun z => wt_V X 0 z.2.2 13 [some (.ref (wt_ad (wt_xw X) 108)), some (.int z.1), some (.int z.2.1)] []) (fun K hK z h => wp_md_bound_B13_ok hE hR hD hK h) n (q1.1, (1 : Int32), q1.2) h
def wb15m5_prog_13_method_38_code_r2 : List (List Nat) := [167, 255, 204, 29, 172] :: []
def wb15m5_prog_13_method_38_code_r1 : List (List Nat) := [2, 160, 0, 22, 42, 180, 0, 50, 27, 21, 4, 184, 0, 227, 46, 28, 161, 0, 7, 4, 167, 0, 4, 3, 96, 62, 132, 4, 1] :: wb15m5_prog_13_method_38_code_r2
def wb15m5_prog_13_method_38_code_r0 : List (List Nat) := [3, 62, 3, 54, 4, 21, 4, 42, 180, 0, 20, 27, 46, 162, 0, 47, 29, 42, 180, 0, 59, 27, 21, 4, 184, 0, 227, 46] :: wb15m5_prog_13_method_38_code_r1
set_option maxRecDepth 100000 in
theorem wb15m5_prog_13_method_38_code_c0 : wt_cs prog_13_method_38_code 0 wb15m5_prog_13_method_38_code_r0 := wt_cs_of (by decide +kernel)
theorem wb15m5_prog_13_method_38_code_c1 : wt_cs prog_13_method_38_code 28 wb15m5_prog_13_method_38_code_r1 := wt_cs_tl (m := 28) wb15m5_prog_13_method_38_code_c0 rfl rfl
theorem wb15m5_prog_13_method_38_code_c2 : wt_cs prog_13_method_38_code 57 wb15m5_prog_13_method_38_code_r2 := wt_cs_tl (m := 29) wb15m5_prog_13_method_38_code_c1 rfl rfl
theorem wp_md_goodFor_d0 : decode prog_13_method_38_code 0 = .ok (.iconst 0, 1) := wt_op3 wb15m5_prog_13_method_38_code_c0 0 rfl rfl
theorem wp_md_goodFor_d1 : decode prog_13_method_38_code 1 = .ok (.istore_n 3, 1) := wt_op62 wb15m5_prog_13_method_38_code_c0 1 rfl rfl
theorem wp_md_goodFor_d2 : decode prog_13_method_38_code 2 = .ok (.iconst 0, 1) := wt_op3 wb15m5_prog_13_method_38_code_c0 2 rfl rfl
theorem wp_md_goodFor_d3 : decode prog_13_method_38_code 3 = .ok (.istore 4, 2) := wt_op54 wb15m5_prog_13_method_38_code_c0 3 rfl rfl
theorem wp_md_goodFor_d5 : decode prog_13_method_38_code 5 = .ok (.iload 4, 2) := wt_op21 wb15m5_prog_13_method_38_code_c0 5 rfl rfl
theorem wp_md_goodFor_d7 : decode prog_13_method_38_code 7 = .ok (.aload_n 0, 1) := wt_op42 wb15m5_prog_13_method_38_code_c0 7 rfl rfl
theorem wp_md_goodFor_d8 : decode prog_13_method_38_code 8 = .ok (.getfield 20, 3) := wt_op180 wb15m5_prog_13_method_38_code_c0 8 rfl rfl rfl
theorem wp_md_goodFor_d11 : decode prog_13_method_38_code 11 = .ok (.iload_n 1, 1) := wt_op27 wb15m5_prog_13_method_38_code_c0 11 rfl rfl
theorem wp_md_goodFor_d12 : decode prog_13_method_38_code 12 = .ok (.iaload, 1) := wt_op46 wb15m5_prog_13_method_38_code_c0 12 rfl rfl
theorem wp_md_goodFor_d13 : decode prog_13_method_38_code 13 = .ok (.if_icmp .ge 47, 3) := wt_op162 wb15m5_prog_13_method_38_code_c0 13 rfl rfl rfl
theorem wp_md_goodFor_d16 : decode prog_13_method_38_code 16 = .ok (.iload_n 3, 1) := wt_op29 wb15m5_prog_13_method_38_code_c0 16 rfl rfl
theorem wp_md_goodFor_d17 : decode prog_13_method_38_code 17 = .ok (.aload_n 0, 1) := wt_op42 wb15m5_prog_13_method_38_code_c0 17 rfl rfl
theorem wp_md_goodFor_d18 : decode prog_13_method_38_code 18 = .ok (.getfield 59, 3) := wt_op180 wb15m5_prog_13_method_38_code_c0 18 rfl rfl rfl
theorem wp_md_goodFor_d21 : decode prog_13_method_38_code 21 = .ok (.iload_n 1, 1) := wt_op27 wb15m5_prog_13_method_38_code_c0 21 rfl rfl
theorem wp_md_goodFor_d22 : decode prog_13_method_38_code 22 = .ok (.iload 4, 2) := wt_op21 wb15m5_prog_13_method_38_code_c0 22 rfl rfl
theorem wp_md_goodFor_d24 : decode prog_13_method_38_code 24 = .ok (.invokestatic 227, 3) := wt_op184 wb15m5_prog_13_method_38_code_c0 24 rfl rfl rfl
theorem wp_md_goodFor_d27 : decode prog_13_method_38_code 27 = .ok (.iaload, 1) := wt_op46 wb15m5_prog_13_method_38_code_c0 27 rfl rfl
theorem wp_md_goodFor_d28 : decode prog_13_method_38_code 28 = .ok (.iconst (-1), 1) := wt_op2 wb15m5_prog_13_method_38_code_c1 0 rfl rfl
theorem wp_md_goodFor_d29 : decode prog_13_method_38_code 29 = .ok (.if_icmp .ne 22, 3) := wt_op160 wb15m5_prog_13_method_38_code_c1 1 rfl rfl rfl
theorem wp_md_goodFor_d32 : decode prog_13_method_38_code 32 = .ok (.aload_n 0, 1) := wt_op42 wb15m5_prog_13_method_38_code_c1 4 rfl rfl
theorem wp_md_goodFor_d33 : decode prog_13_method_38_code 33 = .ok (.getfield 50, 3) := wt_op180 wb15m5_prog_13_method_38_code_c1 5 rfl rfl rfl
theorem wp_md_goodFor_d36 : decode prog_13_method_38_code 36 = .ok (.iload_n 1, 1) := wt_op27 wb15m5_prog_13_method_38_code_c1 8 rfl rfl
theorem wp_md_goodFor_d37 : decode prog_13_method_38_code 37 = .ok (.iload 4, 2) := wt_op21 wb15m5_prog_13_method_38_code_c1 9 rfl rfl
theorem wp_md_goodFor_d39 : decode prog_13_method_38_code 39 = .ok (.invokestatic 227, 3) := wt_op184 wb15m5_prog_13_method_38_code_c1 11 rfl rfl rfl
theorem wp_md_goodFor_d42 : decode prog_13_method_38_code 42 = .ok (.iaload, 1) := wt_op46 wb15m5_prog_13_method_38_code_c1 14 rfl rfl
theorem wp_md_goodFor_d43 : decode prog_13_method_38_code 43 = .ok (.iload_n 2, 1) := wt_op28 wb15m5_prog_13_method_38_code_c1 15 rfl rfl
theorem wp_md_goodFor_d44 : decode prog_13_method_38_code 44 = .ok (.if_icmp .lt 7, 3) := wt_op161 wb15m5_prog_13_method_38_code_c1 16 rfl rfl rfl
theorem wp_md_goodFor_d47 : decode prog_13_method_38_code 47 = .ok (.iconst 1, 1) := wt_op4 wb15m5_prog_13_method_38_code_c1 19 rfl rfl
theorem wp_md_goodFor_d48 : decode prog_13_method_38_code 48 = .ok (.goto 4, 3) := wt_op167 wb15m5_prog_13_method_38_code_c1 20 rfl rfl rfl
theorem wp_md_goodFor_d51 : decode prog_13_method_38_code 51 = .ok (.iconst 0, 1) := wt_op3 wb15m5_prog_13_method_38_code_c1 23 rfl rfl
theorem wp_md_goodFor_d52 : decode prog_13_method_38_code 52 = .ok (.iadd, 1) := wt_op96 wb15m5_prog_13_method_38_code_c1 24 rfl rfl
theorem wp_md_goodFor_d53 : decode prog_13_method_38_code 53 = .ok (.istore_n 3, 1) := wt_op62 wb15m5_prog_13_method_38_code_c1 25 rfl rfl
theorem wp_md_goodFor_d54 : decode prog_13_method_38_code 54 = .ok (.iinc 4 1, 3) := wt_op132 wb15m5_prog_13_method_38_code_c1 26 rfl rfl rfl
theorem wp_md_goodFor_d57 : decode prog_13_method_38_code 57 = .ok (.goto (-52), 3) := wt_op167 wb15m5_prog_13_method_38_code_c2 0 rfl rfl rfl
theorem wp_md_goodFor_d60 : decode prog_13_method_38_code 60 = .ok (.iload_n 3, 1) := wt_op29 wb15m5_prog_13_method_38_code_c2 3 rfl rfl
theorem wp_md_goodFor_d61 : decode prog_13_method_38_code 61 = .ok (.ireturn, 1) := wt_op172 wb15m5_prog_13_method_38_code_c2 4 rfl rfl
noncomputable def wp_md_goodFor_B52 (n : Nat) (x1 : Int32) (x2 : Int32) (x4 : Int32) (K5 : Int32 × Int32 × wt_St → Option (Int32 × wt_St)) (y0 : Int32) (y1 : Int32) (σ : wt_St) : Option (Int32 × wt_St) :=
  K5 ((y0 + y1), (x4 + (1 : Int32)), σ)
set_option maxRecDepth 100000 in
set_option maxHeartbeats 4000000 in
theorem wp_md_goodFor_B52_ok  {x1 : Int32} {x2 : Int32} {x4 : Int32} {X : wt_X} {n : Nat} {res : Int32 × wt_St} (hE : wt_Ok X prog_13_method_38_code 5 "WornTypeModel" 1 0) (hR : wt_Rt X (some .int) (some res.1) res.2) (hD : ∀ i, 108 ≤ i → i < 321 → wt_dom (wt_xw X) i)  {K5 : Int32 × Int32 × wt_St → Option (Int32 × wt_St)} (hK5 : ∀ s : Int32 × Int32 × wt_St, K5 s = some res → wt_V X 0 s.2.2 5 [some (.ref (wt_ad (wt_xw X) 108)), some (.int x1), some (.int x2), some (.int s.1), some (.int s.2.1)] []) {σ : wt_St} {y0 : Int32} {y1 : Int32} (h : wp_md_goodFor_B52 n x1 x2 x4 K5 y0 y1 σ = some res) : wt_V X 0 σ 52 [some (.ref (wt_ad (wt_xw X) 108)), some (.int x1), some (.int x2), none, some (.int x4)] [.int y1, .int y0] := by
  unfold wp_md_goodFor_B52 at h
  refine wt_iadd hE wp_md_goodFor_d52 ?_
  refine wt_istore_n hE [some (.ref (wt_ad (wt_xw X) 108)), some (.int x1), some (.int x2), some (.int (y0 + y1)), some (.int x4)] wp_md_goodFor_d53 (by decide) rfl ?_
  refine wt_iinc hE (x4 + (1 : Int32)) [some (.ref (wt_ad (wt_xw X) 108)), some (.int x1), some (.int x2), some (.int (y0 + y1)), some (.int (x4 + (1 : Int32)))] wp_md_goodFor_d54 (by decide) rfl rfl rfl ?_
  refine wt_goto hE 5 wp_md_goodFor_d57 rfl ?_
  exact hK5 ((y0 + y1), (x4 + (1 : Int32)), σ) h
noncomputable def wp_md_goodFor_B51 (n : Nat) (x1 : Int32) (x2 : Int32) (x4 : Int32) (K5 : Int32 × Int32 × wt_St → Option (Int32 × wt_St)) (y0 : Int32) (σ : wt_St) : Option (Int32 × wt_St) :=
  wp_md_goodFor_B52 n x1 x2 x4 K5 y0 (0 : Int32) σ
set_option maxRecDepth 100000 in
set_option maxHeartbeats 4000000 in
theorem wp_md_goodFor_B51_ok  {x1 : Int32} {x2 : Int32} {x4 : Int32} {X : wt_X} {n : Nat} {res : Int32 × wt_St} (hE : wt_Ok X prog_13_method_38_code 5 "WornTypeModel" 1 0) (hR : wt_Rt X (some .int) (some res.1) res.2) (hD : ∀ i, 108 ≤ i → i < 321 → wt_dom (wt_xw X) i)  {K5 : Int32 × Int32 × wt_St → Option (Int32 × wt_St)} (hK5 : ∀ s : Int32 × Int32 × wt_St, K5 s = some res → wt_V X 0 s.2.2 5 [some (.ref (wt_ad (wt_xw X) 108)), some (.int x1), some (.int x2), some (.int s.1), some (.int s.2.1)] []) {σ : wt_St} {y0 : Int32} (h : wp_md_goodFor_B51 n x1 x2 x4 K5 y0 σ = some res) : wt_V X 0 σ 51 [some (.ref (wt_ad (wt_xw X) 108)), some (.int x1), some (.int x2), none, some (.int x4)] [.int y0] := by
  unfold wp_md_goodFor_B51 at h
  refine wt_iconst hE (0 : Int32) wp_md_goodFor_d51 wt_ci_0 ?_
  exact wp_md_goodFor_B52_ok hE hR hD hK5 h
noncomputable def wp_md_goodFor_B5 (n : Nat) (x1 : Int32) (x2 : Int32) (K5 : Int32 × Int32 × wt_St → Option (Int32 × wt_St)) (s : Int32 × Int32 × wt_St) : Option (Int32 × wt_St) :=
  if x1 < 0 ∨ 26 ≤ Int32.toNatClampNeg x1 then none else
  if (wt_ga s.2.2 111 (Int32.toNatClampNeg x1)) ≤ s.2.1 then
    some (s.1, s.2.2)
  else
    (wp_md_cell n x1 s.2.1 s.2.2).bind fun q3 =>
    if q3.1 < 0 ∨ 338 ≤ Int32.toNatClampNeg q3.1 then none else
    if (wt_ga q3.2 124 (Int32.toNatClampNeg q3.1)) = (-1 : Int32) then
      (wp_md_cell n x1 s.2.1 q3.2).bind fun q6 =>
      if q6.1 < 0 ∨ 338 ≤ Int32.toNatClampNeg q6.1 then none else
      if (wt_ga q6.2 121 (Int32.toNatClampNeg q6.1)) < x2 then
        wp_md_goodFor_B51 n x1 x2 s.2.1 K5 s.1 q6.2
      else
        wp_md_goodFor_B52 n x1 x2 s.2.1 K5 s.1 (1 : Int32) q6.2
    else
      wp_md_goodFor_B51 n x1 x2 s.2.1 K5 s.1 q3.2
set_option maxRecDepth 100000 in
set_option maxHeartbeats 4000000 in
theorem wp_md_goodFor_B5_ok  {x1 : Int32} {x2 : Int32} {X : wt_X} {n : Nat} {res : Int32 × wt_St} (hE : wt_Ok X prog_13_method_38_code 5 "WornTypeModel" 1 0) (hR : wt_Rt X (some .int) (some res.1) res.2) (hD : ∀ i, 108 ≤ i → i < 321 → wt_dom (wt_xw X) i)  {K5 : Int32 × Int32 × wt_St → Option (Int32 × wt_St)} (hK5 : ∀ s : Int32 × Int32 × wt_St, K5 s = some res → wt_V X 0 s.2.2 5 [some (.ref (wt_ad (wt_xw X) 108)), some (.int x1), some (.int x2), some (.int s.1), some (.int s.2.1)] []) {s : Int32 × Int32 × wt_St} (h : wp_md_goodFor_B5 n x1 x2 K5 s = some res) : wt_V X 0 s.2.2 5 [some (.ref (wt_ad (wt_xw X) 108)), some (.int x1), some (.int x2), some (.int s.1), some (.int s.2.1)] [] := by
  unfold wp_md_goodFor_B5 at h
  refine wt_iload hE wp_md_goodFor_d5 rfl ?_
  refine wt_aload_n hE wp_md_goodFor_d7 rfl ?_
  refine wt_getr hE (r := 111) wt_lf_md_20 (hD 108 (by decide) (by decide)) wt_L108 rfl wp_md_goodFor_d8 ?_
  refine wt_iload_n hE wp_md_goodFor_d11 rfl ?_
  obtain ⟨g1, h⟩ := wt_gd h
  refine wt_iald hE (hD 111 (by decide) (by decide)) wt_L111 g1 wp_md_goodFor_d12 ?_
  refine wt_icmp_ge hE 60 wp_md_goodFor_d13 rfl (fun c2 => ?_) (fun c2 => ?_)
  · have h := wt_ip c2 h
    refine wt_iload_n hE wp_md_goodFor_d60 rfl ?_
    cases h
    exact wt_iret hE hR wp_md_goodFor_d61
  · have h := wt_in c2 h
    refine wt_iload_n hE wp_md_goodFor_d16 rfl ?_
    refine wt_aload_n hE wp_md_goodFor_d17 rfl ?_
    refine wt_getr hE (r := 124) wt_lf_md_59 (hD 108 (by decide) (by decide)) wt_L108 rfl wp_md_goodFor_d18 ?_
    refine wt_iload_n hE wp_md_goodFor_d21 rfl ?_
    refine wt_iload hE wp_md_goodFor_d22 rfl ?_
    obtain ⟨q3, hq3, h⟩ := wt_bi h
    refine wt_callSi hE [.int x1, .int s.2.1] wt_lm_md_227 wt_ya_md_cell (wp_md_cell_ok hq3) (by omega) rfl rfl (Nat.le_of_ble_eq_true rfl) (Nat.zero_le _) wp_md_goodFor_d24 (fun hbq3 => ?_)
    obtain ⟨g4, h⟩ := wt_gd h
    refine wt_iald hE (hD 124 (by decide) (by decide)) wt_L124 g4 wp_md_goodFor_d27 ?_
    refine wt_iconst hE (-1 : Int32) wp_md_goodFor_d28 wt_ci_m1 ?_
    refine wt_icmp_ne hE 51 wp_md_goodFor_d29 rfl (fun c5 => ?_) (fun c5 => ?_)
    · have h := wt_in c5 h
      refine wt_wk [true, true, true, false, true] rfl ?_
      exact wp_md_goodFor_B51_ok hE hR hD hK5 h
    · have h := wt_ip c5 h
      refine wt_aload_n hE wp_md_goodFor_d32 rfl ?_
      refine wt_getr hE (r := 121) wt_lf_md_50 (hD 108 (by decide) (by decide)) wt_L108 rfl wp_md_goodFor_d33 ?_
      refine wt_iload_n hE wp_md_goodFor_d36 rfl ?_
      refine wt_iload hE wp_md_goodFor_d37 rfl ?_
      obtain ⟨q6, hq6, h⟩ := wt_bi h
      refine wt_callSi hE [.int x1, .int s.2.1] wt_lm_md_227 wt_ya_md_cell (wp_md_cell_ok hq6) (by omega) rfl rfl (Nat.le_of_ble_eq_true rfl) (Nat.zero_le _) wp_md_goodFor_d39 (fun hbq6 => ?_)
      obtain ⟨g7, h⟩ := wt_gd h
      refine wt_iald hE (hD 121 (by decide) (by decide)) wt_L121 g7 wp_md_goodFor_d42 ?_
      refine wt_iload_n hE wp_md_goodFor_d43 rfl ?_
      refine wt_icmp_lt hE 51 wp_md_goodFor_d44 rfl (fun c8 => ?_) (fun c8 => ?_)
      · have h := wt_ip c8 h
        refine wt_wk [true, true, true, false, true] rfl ?_
        exact wp_md_goodFor_B51_ok hE hR hD hK5 h
      · have h := wt_in c8 h
        refine wt_iconst hE (1 : Int32) wp_md_goodFor_d47 wt_ci_1 ?_
        refine wt_goto hE 52 wp_md_goodFor_d48 rfl ?_
        refine wt_wk [true, true, true, false, true] rfl ?_
        exact wp_md_goodFor_B52_ok hE hR hD hK5 h
noncomputable def wp_md_goodFor (n : Nat) (x1 : Int32) (x2 : Int32) (σ : wt_St) : Option (Int32 × wt_St) :=
  wt_it (wp_md_goodFor_B5 n x1 x2) n ((0 : Int32), (0 : Int32), σ)
set_option maxRecDepth 100000 in
set_option maxHeartbeats 4000000 in
theorem wp_md_goodFor_ok {l : Launch} {w : wt_E} {n : Nat} {x1 : Int32} {x2 : Int32} (hD : ∀ i, 108 ≤ i → i < 321 → wt_dom w i) {σ : wt_St} {q : Int32 × wt_St} (h : wp_md_goodFor n x1 x2 σ = some q) : wt_Ctr l w wt_y_md_goodFor prog_13_method_38_code 5 (some .int) 1 [.ref (wt_ad w 108), .int x1, .int x2] σ (some q.1) q.2 := by
  refine wt_ctr wt_pl_md_goodFor rfl (Nat.le_of_ble_eq_true rfl) [some (.ref (wt_ad w 108)), some (.int x1), some (.int x2), none, none] rfl ?_
  intro X hXl hXw hE hR
  subst hXl
  subst hXw
  have hE : wt_Ok X prog_13_method_38_code 5 "WornTypeModel" 1 0 := hE
  unfold wp_md_goodFor at h
  refine wt_iconst hE (0 : Int32) wp_md_goodFor_d0 wt_ci_0 ?_
  refine wt_istore_n hE [some (.ref (wt_ad (wt_xw X) 108)), some (.int x1), some (.int x2), some (.int (0 : Int32)), none] wp_md_goodFor_d1 (by decide) rfl ?_
  refine wt_iconst hE (0 : Int32) wp_md_goodFor_d2 wt_ci_0 ?_
  refine wt_istore hE [some (.ref (wt_ad (wt_xw X) 108)), some (.int x1), some (.int x2), some (.int (0 : Int32)), some (.int (0 : Int32))] wp_md_goodFor_d3 (Nat.le_of_ble_eq_true rfl) rfl ?_
  exact wt_it_ind (fun z => wt_V X 0 z.2.2 5 [some (.ref (wt_ad (wt_xw X) 108)), some (.int x1), some (.int x2), some (.int z.1), some (.int z.2.1)] []) (fun K hK z h => wp_md_goodFor_B5_ok hE hR hD hK h) n ((0 : Int32), (0 : Int32), σ) h
def wb15m5_prog_13_method_39_code_r1 : List (List Nat) := [167, 255, 230, 2, 172] :: []
def wb15m5_prog_13_method_39_code_r0 : List (List Nat) := [3, 61, 28, 16, 26, 162, 0, 26, 42, 180, 0, 115, 28, 46, 42, 28, 27, 182, 1, 33, 164, 0, 5, 28, 172, 132, 2, 1] :: wb15m5_prog_13_method_39_code_r1
set_option maxRecDepth 100000 in
theorem wb15m5_prog_13_method_39_code_c0 : wt_cs prog_13_method_39_code 0 wb15m5_prog_13_method_39_code_r0 := wt_cs_of (by decide +kernel)
theorem wb15m5_prog_13_method_39_code_c1 : wt_cs prog_13_method_39_code 28 wb15m5_prog_13_method_39_code_r1 := wt_cs_tl (m := 28) wb15m5_prog_13_method_39_code_c0 rfl rfl
theorem wp_md_lacking_d0 : decode prog_13_method_39_code 0 = .ok (.iconst 0, 1) := wt_op3 wb15m5_prog_13_method_39_code_c0 0 rfl rfl
theorem wp_md_lacking_d1 : decode prog_13_method_39_code 1 = .ok (.istore_n 2, 1) := wt_op61 wb15m5_prog_13_method_39_code_c0 1 rfl rfl
theorem wp_md_lacking_d2 : decode prog_13_method_39_code 2 = .ok (.iload_n 2, 1) := wt_op28 wb15m5_prog_13_method_39_code_c0 2 rfl rfl
theorem wp_md_lacking_d3 : decode prog_13_method_39_code 3 = .ok (.bipush 26, 2) := wt_op16 wb15m5_prog_13_method_39_code_c0 3 rfl rfl rfl
theorem wp_md_lacking_d5 : decode prog_13_method_39_code 5 = .ok (.if_icmp .ge 26, 3) := wt_op162 wb15m5_prog_13_method_39_code_c0 5 rfl rfl rfl
theorem wp_md_lacking_d8 : decode prog_13_method_39_code 8 = .ok (.aload_n 0, 1) := wt_op42 wb15m5_prog_13_method_39_code_c0 8 rfl rfl
theorem wp_md_lacking_d9 : decode prog_13_method_39_code 9 = .ok (.getfield 115, 3) := wt_op180 wb15m5_prog_13_method_39_code_c0 9 rfl rfl rfl
theorem wp_md_lacking_d12 : decode prog_13_method_39_code 12 = .ok (.iload_n 2, 1) := wt_op28 wb15m5_prog_13_method_39_code_c0 12 rfl rfl
theorem wp_md_lacking_d13 : decode prog_13_method_39_code 13 = .ok (.iaload, 1) := wt_op46 wb15m5_prog_13_method_39_code_c0 13 rfl rfl
theorem wp_md_lacking_d14 : decode prog_13_method_39_code 14 = .ok (.aload_n 0, 1) := wt_op42 wb15m5_prog_13_method_39_code_c0 14 rfl rfl
theorem wp_md_lacking_d15 : decode prog_13_method_39_code 15 = .ok (.iload_n 2, 1) := wt_op28 wb15m5_prog_13_method_39_code_c0 15 rfl rfl
theorem wp_md_lacking_d16 : decode prog_13_method_39_code 16 = .ok (.iload_n 1, 1) := wt_op27 wb15m5_prog_13_method_39_code_c0 16 rfl rfl
theorem wp_md_lacking_d17 : decode prog_13_method_39_code 17 = .ok (.invokevirtual 289, 3) := wt_op182 wb15m5_prog_13_method_39_code_c0 17 rfl rfl rfl
theorem wp_md_lacking_d20 : decode prog_13_method_39_code 20 = .ok (.if_icmp .le 5, 3) := wt_op164 wb15m5_prog_13_method_39_code_c0 20 rfl rfl rfl
theorem wp_md_lacking_d23 : decode prog_13_method_39_code 23 = .ok (.iload_n 2, 1) := wt_op28 wb15m5_prog_13_method_39_code_c0 23 rfl rfl
theorem wp_md_lacking_d24 : decode prog_13_method_39_code 24 = .ok (.ireturn, 1) := wt_op172 wb15m5_prog_13_method_39_code_c0 24 rfl rfl
theorem wp_md_lacking_d25 : decode prog_13_method_39_code 25 = .ok (.iinc 2 1, 3) := wt_op132 wb15m5_prog_13_method_39_code_c0 25 rfl rfl rfl
theorem wp_md_lacking_d28 : decode prog_13_method_39_code 28 = .ok (.goto (-26), 3) := wt_op167 wb15m5_prog_13_method_39_code_c1 0 rfl rfl rfl
theorem wp_md_lacking_d31 : decode prog_13_method_39_code 31 = .ok (.iconst (-1), 1) := wt_op2 wb15m5_prog_13_method_39_code_c1 3 rfl rfl
theorem wp_md_lacking_d32 : decode prog_13_method_39_code 32 = .ok (.ireturn, 1) := wt_op172 wb15m5_prog_13_method_39_code_c1 4 rfl rfl
noncomputable def wp_md_lacking_B2 (n : Nat) (x1 : Int32) (K2 : Int32 × wt_St → Option (Int32 × wt_St)) (s : Int32 × wt_St) : Option (Int32 × wt_St) :=
  if (26 : Int32) ≤ s.1 then
    some ((-1 : Int32), s.2)
  else
    if s.1 < 0 ∨ 26 ≤ Int32.toNatClampNeg s.1 then none else
    (wp_md_goodFor n s.1 x1 s.2).bind fun q3 =>
    if (wt_ga s.2 287 (Int32.toNatClampNeg s.1)) ≤ q3.1 then
      K2 ((s.1 + (1 : Int32)), q3.2)
    else
      some (s.1, q3.2)
set_option maxRecDepth 100000 in
set_option maxHeartbeats 4000000 in
theorem wp_md_lacking_B2_ok  {x1 : Int32} {X : wt_X} {n : Nat} {res : Int32 × wt_St} (hE : wt_Ok X prog_13_method_39_code 3 "WornTypeModel" 2 0) (hR : wt_Rt X (some .int) (some res.1) res.2) (hD : ∀ i, 108 ≤ i → i < 321 → wt_dom (wt_xw X) i)  {K2 : Int32 × wt_St → Option (Int32 × wt_St)} (hK2 : ∀ s : Int32 × wt_St, K2 s = some res → wt_V X 0 s.2 2 [some (.ref (wt_ad (wt_xw X) 108)), some (.int x1), some (.int s.1)] []) {s : Int32 × wt_St} (h : wp_md_lacking_B2 n x1 K2 s = some res) : wt_V X 0 s.2 2 [some (.ref (wt_ad (wt_xw X) 108)), some (.int x1), some (.int s.1)] [] := by
  unfold wp_md_lacking_B2 at h
  refine wt_iload_n hE wp_md_lacking_d2 rfl ?_
  refine wt_bipush hE (26 : Int32) wp_md_lacking_d3 wt_cb_26 ?_
  refine wt_icmp_ge hE 31 wp_md_lacking_d5 rfl (fun c1 => ?_) (fun c1 => ?_)
  · have h := wt_ip c1 h
    refine wt_iconst hE (-1 : Int32) wp_md_lacking_d31 wt_ci_m1 ?_
    cases h
    exact wt_iret hE hR wp_md_lacking_d32
  · have h := wt_in c1 h
    refine wt_aload_n hE wp_md_lacking_d8 rfl ?_
    refine wt_getr hE (r := 287) wt_lf_md_115 (hD 108 (by decide) (by decide)) wt_L108 rfl wp_md_lacking_d9 ?_
    refine wt_iload_n hE wp_md_lacking_d12 rfl ?_
    obtain ⟨g2, h⟩ := wt_gd h
    refine wt_iald hE (hD 287 (by decide) (by decide)) wt_L287 g2 wp_md_lacking_d13 ?_
    refine wt_aload_n hE wp_md_lacking_d14 rfl ?_
    refine wt_iload_n hE wp_md_lacking_d15 rfl ?_
    refine wt_iload_n hE wp_md_lacking_d16 rfl ?_
    obtain ⟨q3, hq3, h⟩ := wt_bi h
    refine wt_callVi hE [.int s.1, .int x1] wt_lm_md_289 wt_ya_md_goodFor (wp_md_goodFor_ok hD hq3) (by omega) (hD 108 (by decide) (by decide)) wt_L108 rfl rfl rfl (Nat.le_of_ble_eq_true rfl) (Nat.zero_le _) wp_md_lacking_d17 (fun hbq3 => ?_)
    refine wt_icmp_le hE 25 wp_md_lacking_d20 rfl (fun c4 => ?_) (fun c4 => ?_)
    · have h := wt_ip c4 h
      refine wt_iinc hE (s.1 + (1 : Int32)) [some (.ref (wt_ad (wt_xw X) 108)), some (.int x1), some (.int (s.1 + (1 : Int32)))] wp_md_lacking_d25 (by decide) rfl rfl rfl ?_
      refine wt_goto hE 2 wp_md_lacking_d28 rfl ?_
      exact hK2 ((s.1 + (1 : Int32)), q3.2) h
    · have h := wt_in c4 h
      refine wt_iload_n hE wp_md_lacking_d23 rfl ?_
      cases h
      exact wt_iret hE hR wp_md_lacking_d24
noncomputable def wp_md_lacking (n : Nat) (x1 : Int32) (σ : wt_St) : Option (Int32 × wt_St) :=
  wt_it (wp_md_lacking_B2 n x1) n ((0 : Int32), σ)
set_option maxRecDepth 100000 in
set_option maxHeartbeats 4000000 in
theorem wp_md_lacking_ok {l : Launch} {w : wt_E} {n : Nat} {x1 : Int32} (hD : ∀ i, 108 ≤ i → i < 321 → wt_dom w i) {σ : wt_St} {q : Int32 × wt_St} (h : wp_md_lacking n x1 σ = some q) : wt_Ctr l w wt_y_md_lacking prog_13_method_39_code 3 (some .int) 2 [.ref (wt_ad w 108), .int x1] σ (some q.1) q.2 := by
  refine wt_ctr wt_pl_md_lacking rfl (Nat.le_of_ble_eq_true rfl) [some (.ref (wt_ad w 108)), some (.int x1), none] rfl ?_
  intro X hXl hXw hE hR
  subst hXl
  subst hXw
  have hE : wt_Ok X prog_13_method_39_code 3 "WornTypeModel" 2 0 := hE
  unfold wp_md_lacking at h
  refine wt_iconst hE (0 : Int32) wp_md_lacking_d0 wt_ci_0 ?_
  refine wt_istore_n hE [some (.ref (wt_ad (wt_xw X) 108)), some (.int x1), some (.int (0 : Int32))] wp_md_lacking_d1 (by decide) rfl ?_
  exact wt_it_ind (fun z => wt_V X 0 z.2 2 [some (.ref (wt_ad (wt_xw X) 108)), some (.int x1), some (.int z.1)] []) (fun K hK z h => wp_md_lacking_B2_ok hE hR hD hK h) n ((0 : Int32), σ) h
def wb15m5_prog_13_method_40_code_r1 : List (List Nat) := [29, 60, 167, 0, 7, 29, 4, 100, 61, 167, 255, 225, 27, 172] :: []
def wb15m5_prog_13_method_40_code_r0 : List (List Nat) := [3, 60, 17, 1, 144, 61, 27, 28, 162, 0, 32, 27, 28, 96, 4, 96, 5, 108, 62, 42, 29, 182, 1, 36, 2, 160, 0, 8] :: wb15m5_prog_13_method_40_code_r1
set_option maxRecDepth 100000 in
theorem wb15m5_prog_13_method_40_code_c0 : wt_cs prog_13_method_40_code 0 wb15m5_prog_13_method_40_code_r0 := wt_cs_of (by decide +kernel)
theorem wb15m5_prog_13_method_40_code_c1 : wt_cs prog_13_method_40_code 28 wb15m5_prog_13_method_40_code_r1 := wt_cs_tl (m := 28) wb15m5_prog_13_method_40_code_c0 rfl rfl
theorem wp_md_often_d0 : decode prog_13_method_40_code 0 = .ok (.iconst 0, 1) := wt_op3 wb15m5_prog_13_method_40_code_c0 0 rfl rfl
theorem wp_md_often_d1 : decode prog_13_method_40_code 1 = .ok (.istore_n 1, 1) := wt_op60 wb15m5_prog_13_method_40_code_c0 1 rfl rfl
theorem wp_md_often_d2 : decode prog_13_method_40_code 2 = .ok (.sipush 400, 3) := wt_op17 wb15m5_prog_13_method_40_code_c0 2 rfl rfl rfl
theorem wp_md_often_d5 : decode prog_13_method_40_code 5 = .ok (.istore_n 2, 1) := wt_op61 wb15m5_prog_13_method_40_code_c0 5 rfl rfl
theorem wp_md_often_d6 : decode prog_13_method_40_code 6 = .ok (.iload_n 1, 1) := wt_op27 wb15m5_prog_13_method_40_code_c0 6 rfl rfl
theorem wp_md_often_d7 : decode prog_13_method_40_code 7 = .ok (.iload_n 2, 1) := wt_op28 wb15m5_prog_13_method_40_code_c0 7 rfl rfl
theorem wp_md_often_d8 : decode prog_13_method_40_code 8 = .ok (.if_icmp .ge 32, 3) := wt_op162 wb15m5_prog_13_method_40_code_c0 8 rfl rfl rfl
theorem wp_md_often_d11 : decode prog_13_method_40_code 11 = .ok (.iload_n 1, 1) := wt_op27 wb15m5_prog_13_method_40_code_c0 11 rfl rfl
theorem wp_md_often_d12 : decode prog_13_method_40_code 12 = .ok (.iload_n 2, 1) := wt_op28 wb15m5_prog_13_method_40_code_c0 12 rfl rfl
theorem wp_md_often_d13 : decode prog_13_method_40_code 13 = .ok (.iadd, 1) := wt_op96 wb15m5_prog_13_method_40_code_c0 13 rfl rfl
theorem wp_md_often_d14 : decode prog_13_method_40_code 14 = .ok (.iconst 1, 1) := wt_op4 wb15m5_prog_13_method_40_code_c0 14 rfl rfl
theorem wp_md_often_d15 : decode prog_13_method_40_code 15 = .ok (.iadd, 1) := wt_op96 wb15m5_prog_13_method_40_code_c0 15 rfl rfl
theorem wp_md_often_d16 : decode prog_13_method_40_code 16 = .ok (.iconst 2, 1) := wt_op5 wb15m5_prog_13_method_40_code_c0 16 rfl rfl
theorem wp_md_often_d17 : decode prog_13_method_40_code 17 = .ok (.idiv, 1) := wt_op108 wb15m5_prog_13_method_40_code_c0 17 rfl rfl
theorem wp_md_often_d18 : decode prog_13_method_40_code 18 = .ok (.istore_n 3, 1) := wt_op62 wb15m5_prog_13_method_40_code_c0 18 rfl rfl
theorem wp_md_often_d19 : decode prog_13_method_40_code 19 = .ok (.aload_n 0, 1) := wt_op42 wb15m5_prog_13_method_40_code_c0 19 rfl rfl
theorem wp_md_often_d20 : decode prog_13_method_40_code 20 = .ok (.iload_n 3, 1) := wt_op29 wb15m5_prog_13_method_40_code_c0 20 rfl rfl
theorem wp_md_often_d21 : decode prog_13_method_40_code 21 = .ok (.invokevirtual 292, 3) := wt_op182 wb15m5_prog_13_method_40_code_c0 21 rfl rfl rfl
theorem wp_md_often_d24 : decode prog_13_method_40_code 24 = .ok (.iconst (-1), 1) := wt_op2 wb15m5_prog_13_method_40_code_c0 24 rfl rfl
theorem wp_md_often_d25 : decode prog_13_method_40_code 25 = .ok (.if_icmp .ne 8, 3) := wt_op160 wb15m5_prog_13_method_40_code_c0 25 rfl rfl rfl
theorem wp_md_often_d28 : decode prog_13_method_40_code 28 = .ok (.iload_n 3, 1) := wt_op29 wb15m5_prog_13_method_40_code_c1 0 rfl rfl
theorem wp_md_often_d29 : decode prog_13_method_40_code 29 = .ok (.istore_n 1, 1) := wt_op60 wb15m5_prog_13_method_40_code_c1 1 rfl rfl
theorem wp_md_often_d30 : decode prog_13_method_40_code 30 = .ok (.goto 7, 3) := wt_op167 wb15m5_prog_13_method_40_code_c1 2 rfl rfl rfl
theorem wp_md_often_d33 : decode prog_13_method_40_code 33 = .ok (.iload_n 3, 1) := wt_op29 wb15m5_prog_13_method_40_code_c1 5 rfl rfl
theorem wp_md_often_d34 : decode prog_13_method_40_code 34 = .ok (.iconst 1, 1) := wt_op4 wb15m5_prog_13_method_40_code_c1 6 rfl rfl
theorem wp_md_often_d35 : decode prog_13_method_40_code 35 = .ok (.isub, 1) := wt_op100 wb15m5_prog_13_method_40_code_c1 7 rfl rfl
theorem wp_md_often_d36 : decode prog_13_method_40_code 36 = .ok (.istore_n 2, 1) := wt_op61 wb15m5_prog_13_method_40_code_c1 8 rfl rfl
theorem wp_md_often_d37 : decode prog_13_method_40_code 37 = .ok (.goto (-31), 3) := wt_op167 wb15m5_prog_13_method_40_code_c1 9 rfl rfl rfl
theorem wp_md_often_d40 : decode prog_13_method_40_code 40 = .ok (.iload_n 1, 1) := wt_op27 wb15m5_prog_13_method_40_code_c1 12 rfl rfl
theorem wp_md_often_d41 : decode prog_13_method_40_code 41 = .ok (.ireturn, 1) := wt_op172 wb15m5_prog_13_method_40_code_c1 13 rfl rfl
noncomputable def wp_md_often_B37 (n : Nat) (x1 : Int32) (x2 : Int32) (K6 : Int32 × Int32 × wt_St → Option (Int32 × wt_St)) (σ : wt_St) : Option (Int32 × wt_St) :=
  K6 (x1, x2, σ)
set_option maxRecDepth 100000 in
set_option maxHeartbeats 4000000 in
theorem wp_md_often_B37_ok  {x1 : Int32} {x2 : Int32} {X : wt_X} {n : Nat} {res : Int32 × wt_St} (hE : wt_Ok X prog_13_method_40_code 4 "WornTypeModel" 3 0) (hR : wt_Rt X (some .int) (some res.1) res.2) (hD : ∀ i, 108 ≤ i → i < 321 → wt_dom (wt_xw X) i)  {K6 : Int32 × Int32 × wt_St → Option (Int32 × wt_St)} (hK6 : ∀ s : Int32 × Int32 × wt_St, K6 s = some res → wt_V X 0 s.2.2 6 [some (.ref (wt_ad (wt_xw X) 108)), some (.int s.1), some (.int s.2.1), none] []) {σ : wt_St} (h : wp_md_often_B37 n x1 x2 K6 σ = some res) : wt_V X 0 σ 37 [some (.ref (wt_ad (wt_xw X) 108)), some (.int x1), some (.int x2), none] [] := by
  unfold wp_md_often_B37 at h
  refine wt_goto hE 6 wp_md_often_d37 rfl ?_
  exact hK6 (x1, x2, σ) h
noncomputable def wp_md_often_B6 (n : Nat) (K6 : Int32 × Int32 × wt_St → Option (Int32 × wt_St)) (s : Int32 × Int32 × wt_St) : Option (Int32 × wt_St) :=
  if s.2.1 ≤ s.1 then
    some (s.1, s.2.2)
  else
    (wp_md_lacking n (((s.1 + s.2.1) + (1 : Int32)) / (2 : Int32)) s.2.2).bind fun q2 =>
    if q2.1 = (-1 : Int32) then
      wp_md_often_B37 n (((s.1 + s.2.1) + (1 : Int32)) / (2 : Int32)) s.2.1 K6 q2.2
    else
      wp_md_often_B37 n s.1 ((((s.1 + s.2.1) + (1 : Int32)) / (2 : Int32)) - (1 : Int32)) K6 q2.2
set_option maxRecDepth 100000 in
set_option maxHeartbeats 4000000 in
theorem wp_md_often_B6_ok  {X : wt_X} {n : Nat} {res : Int32 × wt_St} (hE : wt_Ok X prog_13_method_40_code 4 "WornTypeModel" 3 0) (hR : wt_Rt X (some .int) (some res.1) res.2) (hD : ∀ i, 108 ≤ i → i < 321 → wt_dom (wt_xw X) i)  {K6 : Int32 × Int32 × wt_St → Option (Int32 × wt_St)} (hK6 : ∀ s : Int32 × Int32 × wt_St, K6 s = some res → wt_V X 0 s.2.2 6 [some (.ref (wt_ad (wt_xw X) 108)), some (.int s.1), some (.int s.2.1), none] []) {s : Int32 × Int32 × wt_St} (h : wp_md_often_B6 n K6 s = some res) : wt_V X 0 s.2.2 6 [some (.ref (wt_ad (wt_xw X) 108)), some (.int s.1), some (.int s.2.1), none] [] := by
  unfold wp_md_often_B6 at h
  refine wt_iload_n hE wp_md_often_d6 rfl ?_
  refine wt_iload_n hE wp_md_often_d7 rfl ?_
  refine wt_icmp_ge hE 40 wp_md_often_d8 rfl (fun c1 => ?_) (fun c1 => ?_)
  · have h := wt_ip c1 h
    refine wt_iload_n hE wp_md_often_d40 rfl ?_
    cases h
    exact wt_iret hE hR wp_md_often_d41
  · have h := wt_in c1 h
    refine wt_iload_n hE wp_md_often_d11 rfl ?_
    refine wt_iload_n hE wp_md_often_d12 rfl ?_
    refine wt_iadd hE wp_md_often_d13 ?_
    refine wt_iconst hE (1 : Int32) wp_md_often_d14 wt_ci_1 ?_
    refine wt_iadd hE wp_md_often_d15 ?_
    refine wt_iconst hE (2 : Int32) wp_md_often_d16 wt_ci_2 ?_
    refine wt_idiv hE wp_md_often_d17 (by decide) ?_
    refine wt_istore_n hE [some (.ref (wt_ad (wt_xw X) 108)), some (.int s.1), some (.int s.2.1), some (.int (((s.1 + s.2.1) + (1 : Int32)) / (2 : Int32)))] wp_md_often_d18 (by decide) rfl ?_
    refine wt_aload_n hE wp_md_often_d19 rfl ?_
    refine wt_iload_n hE wp_md_often_d20 rfl ?_
    obtain ⟨q2, hq2, h⟩ := wt_bi h
    refine wt_callVi hE [.int (((s.1 + s.2.1) + (1 : Int32)) / (2 : Int32))] wt_lm_md_292 wt_ya_md_lacking (wp_md_lacking_ok hD hq2) (by omega) (hD 108 (by decide) (by decide)) wt_L108 rfl rfl rfl (Nat.le_of_ble_eq_true rfl) (Nat.zero_le _) wp_md_often_d21 (fun hbq2 => ?_)
    refine wt_iconst hE (-1 : Int32) wp_md_often_d24 wt_ci_m1 ?_
    refine wt_icmp_ne hE 33 wp_md_often_d25 rfl (fun c3 => ?_) (fun c3 => ?_)
    · have h := wt_in c3 h
      refine wt_iload_n hE wp_md_often_d33 rfl ?_
      refine wt_iconst hE (1 : Int32) wp_md_often_d34 wt_ci_1 ?_
      refine wt_isub hE wp_md_often_d35 ?_
      refine wt_istore_n hE [some (.ref (wt_ad (wt_xw X) 108)), some (.int s.1), some (.int ((((s.1 + s.2.1) + (1 : Int32)) / (2 : Int32)) - (1 : Int32))), some (.int (((s.1 + s.2.1) + (1 : Int32)) / (2 : Int32)))] wp_md_often_d36 (by decide) rfl ?_
      refine wt_wk [true, true, true, false] rfl ?_
      exact wp_md_often_B37_ok hE hR hD hK6 h
    · have h := wt_ip c3 h
      refine wt_iload_n hE wp_md_often_d28 rfl ?_
      refine wt_istore_n hE [some (.ref (wt_ad (wt_xw X) 108)), some (.int (((s.1 + s.2.1) + (1 : Int32)) / (2 : Int32))), some (.int s.2.1), some (.int (((s.1 + s.2.1) + (1 : Int32)) / (2 : Int32)))] wp_md_often_d29 (by decide) rfl ?_
      refine wt_goto hE 37 wp_md_often_d30 rfl ?_
      refine wt_wk [true, true, true, false] rfl ?_
      exact wp_md_often_B37_ok hE hR hD hK6 h
noncomputable def wp_md_often (n : Nat) (σ : wt_St) : Option (Int32 × wt_St) :=
  wt_it (wp_md_often_B6 n) n ((0 : Int32), (400 : Int32), σ)
set_option maxRecDepth 100000 in
set_option maxHeartbeats 4000000 in
theorem wp_md_often_ok {l : Launch} {w : wt_E} {n : Nat} (hD : ∀ i, 108 ≤ i → i < 321 → wt_dom w i) {σ : wt_St} {q : Int32 × wt_St} (h : wp_md_often n σ = some q) : wt_Ctr l w wt_y_md_often prog_13_method_40_code 4 (some .int) 3 [.ref (wt_ad w 108)] σ (some q.1) q.2 := by
  refine wt_ctr wt_pl_md_often rfl (Nat.le_of_ble_eq_true rfl) [some (.ref (wt_ad w 108)), none, none, none] rfl ?_
  intro X hXl hXw hE hR
  subst hXl
  subst hXw
  have hE : wt_Ok X prog_13_method_40_code 4 "WornTypeModel" 3 0 := hE
  unfold wp_md_often at h
  refine wt_iconst hE (0 : Int32) wp_md_often_d0 wt_ci_0 ?_
  refine wt_istore_n hE [some (.ref (wt_ad (wt_xw X) 108)), some (.int (0 : Int32)), none, none] wp_md_often_d1 (by decide) rfl ?_
  refine wt_sipush hE (400 : Int32) wp_md_often_d2 wt_cs_400 ?_
  refine wt_istore_n hE [some (.ref (wt_ad (wt_xw X) 108)), some (.int (0 : Int32)), some (.int (400 : Int32)), none] wp_md_often_d5 (by decide) rfl ?_
  exact wt_it_ind (fun z => wt_V X 0 z.2.2 6 [some (.ref (wt_ad (wt_xw X) 108)), some (.int z.1), some (.int z.2.1), none] []) (fun K hK z h => wp_md_often_B6_ok hE hR hD hK h) n ((0 : Int32), (400 : Int32), σ) h
def wb15m5_prog_13_method_49_code_r1 : List (List Nat) := [42, 27, 182, 1, 54, 42, 182, 1, 39, 172] :: []
def wb15m5_prog_13_method_49_code_r0 : List (List Nat) := [42, 3, 181, 0, 151, 42, 42, 27, 182, 1, 51, 154, 0, 7, 4, 167, 0, 4, 3, 4, 182, 0, 230, 153, 0, 5, 3, 172] :: wb15m5_prog_13_method_49_code_r1
set_option maxRecDepth 100000 in
theorem wb15m5_prog_13_method_49_code_c0 : wt_cs prog_13_method_49_code 0 wb15m5_prog_13_method_49_code_r0 := wt_cs_of (by decide +kernel)
theorem wb15m5_prog_13_method_49_code_c1 : wt_cs prog_13_method_49_code 28 wb15m5_prog_13_method_49_code_r1 := wt_cs_tl (m := 28) wb15m5_prog_13_method_49_code_c0 rfl rfl
theorem wp_md_can_d0 : decode prog_13_method_49_code 0 = .ok (.aload_n 0, 1) := wt_op42 wb15m5_prog_13_method_49_code_c0 0 rfl rfl
theorem wp_md_can_d1 : decode prog_13_method_49_code 1 = .ok (.iconst 0, 1) := wt_op3 wb15m5_prog_13_method_49_code_c0 1 rfl rfl
theorem wp_md_can_d2 : decode prog_13_method_49_code 2 = .ok (.putfield 151, 3) := wt_op181 wb15m5_prog_13_method_49_code_c0 2 rfl rfl rfl
theorem wp_md_can_d5 : decode prog_13_method_49_code 5 = .ok (.aload_n 0, 1) := wt_op42 wb15m5_prog_13_method_49_code_c0 5 rfl rfl
theorem wp_md_can_d6 : decode prog_13_method_49_code 6 = .ok (.aload_n 0, 1) := wt_op42 wb15m5_prog_13_method_49_code_c0 6 rfl rfl
theorem wp_md_can_d7 : decode prog_13_method_49_code 7 = .ok (.iload_n 1, 1) := wt_op27 wb15m5_prog_13_method_49_code_c0 7 rfl rfl
theorem wp_md_can_d8 : decode prog_13_method_49_code 8 = .ok (.invokevirtual 307, 3) := wt_op182 wb15m5_prog_13_method_49_code_c0 8 rfl rfl rfl
theorem wp_md_can_d11 : decode prog_13_method_49_code 11 = .ok (.ifCond .ne 7, 3) := wt_op154 wb15m5_prog_13_method_49_code_c0 11 rfl rfl rfl
theorem wp_md_can_d14 : decode prog_13_method_49_code 14 = .ok (.iconst 1, 1) := wt_op4 wb15m5_prog_13_method_49_code_c0 14 rfl rfl
theorem wp_md_can_d15 : decode prog_13_method_49_code 15 = .ok (.goto 4, 3) := wt_op167 wb15m5_prog_13_method_49_code_c0 15 rfl rfl rfl
theorem wp_md_can_d18 : decode prog_13_method_49_code 18 = .ok (.iconst 0, 1) := wt_op3 wb15m5_prog_13_method_49_code_c0 18 rfl rfl
theorem wp_md_can_d19 : decode prog_13_method_49_code 19 = .ok (.iconst 1, 1) := wt_op4 wb15m5_prog_13_method_49_code_c0 19 rfl rfl
theorem wp_md_can_d20 : decode prog_13_method_49_code 20 = .ok (.invokevirtual 230, 3) := wt_op182 wb15m5_prog_13_method_49_code_c0 20 rfl rfl rfl
theorem wp_md_can_d23 : decode prog_13_method_49_code 23 = .ok (.ifCond .eq 5, 3) := wt_op153 wb15m5_prog_13_method_49_code_c0 23 rfl rfl rfl
theorem wp_md_can_d26 : decode prog_13_method_49_code 26 = .ok (.iconst 0, 1) := wt_op3 wb15m5_prog_13_method_49_code_c0 26 rfl rfl
theorem wp_md_can_d27 : decode prog_13_method_49_code 27 = .ok (.ireturn, 1) := wt_op172 wb15m5_prog_13_method_49_code_c0 27 rfl rfl
theorem wp_md_can_d28 : decode prog_13_method_49_code 28 = .ok (.aload_n 0, 1) := wt_op42 wb15m5_prog_13_method_49_code_c1 0 rfl rfl
theorem wp_md_can_d29 : decode prog_13_method_49_code 29 = .ok (.iload_n 1, 1) := wt_op27 wb15m5_prog_13_method_49_code_c1 1 rfl rfl
theorem wp_md_can_d30 : decode prog_13_method_49_code 30 = .ok (.invokevirtual 310, 3) := wt_op182 wb15m5_prog_13_method_49_code_c1 2 rfl rfl rfl
theorem wp_md_can_d33 : decode prog_13_method_49_code 33 = .ok (.aload_n 0, 1) := wt_op42 wb15m5_prog_13_method_49_code_c1 5 rfl rfl
theorem wp_md_can_d34 : decode prog_13_method_49_code 34 = .ok (.invokevirtual 295, 3) := wt_op182 wb15m5_prog_13_method_49_code_c1 6 rfl rfl rfl
theorem wp_md_can_d37 : decode prog_13_method_49_code 37 = .ok (.ireturn, 1) := wt_op172 wb15m5_prog_13_method_49_code_c1 9 rfl rfl
noncomputable def wp_md_can_B19 (n : Nat) (x1 : Int32) (y1 : Int32) (σ : wt_St) : Option (Int32 × wt_St) :=
  (wp_md_bad n y1 (1 : Int32) σ).bind fun q3 =>
  if q3.1 = 0 then
    (wp_md_needsText n x1 q3.2).bind fun q5 =>
    (wp_md_often n q5).bind fun q6 =>
    some (q6.1, q6.2)
  else
    some ((0 : Int32), q3.2)
set_option maxRecDepth 100000 in
set_option maxHeartbeats 4000000 in
theorem wp_md_can_B19_ok  {x1 : Int32} {X : wt_X} {n : Nat} {res : Int32 × wt_St} (hE : wt_Ok X prog_13_method_49_code 2 "WornTypeModel" 4 0) (hR : wt_Rt X (some .int) (some res.1) res.2) (hD : ∀ i, 108 ≤ i → i < 321 → wt_dom (wt_xw X) i)  {σ : wt_St} {y1 : Int32} (h : wp_md_can_B19 n x1 y1 σ = some res) : wt_V X 0 σ 19 [some (.ref (wt_ad (wt_xw X) 108)), some (.int x1)] [.int y1, .ref (wt_ad (wt_xw X) 108)] := by
  unfold wp_md_can_B19 at h
  refine wt_iconst hE (1 : Int32) wp_md_can_d19 wt_ci_1 ?_
  obtain ⟨q3, hq3, h⟩ := wt_bi h
  refine wt_callVi hE [.int y1, .int (1 : Int32)] wt_lm_md_230 wt_ya_md_bad (wp_md_bad_ok hD hq3) (by omega) (hD 108 (by decide) (by decide)) wt_L108 rfl rfl rfl (Nat.le_of_ble_eq_true rfl) (Nat.zero_le _) wp_md_can_d20 (fun hbq3 => ?_)
  refine wt_if_eq hE 28 wp_md_can_d23 rfl (fun c4 => ?_) (fun c4 => ?_)
  · have h := wt_ip c4 h
    refine wt_aload_n hE wp_md_can_d28 rfl ?_
    refine wt_iload_n hE wp_md_can_d29 rfl ?_
    obtain ⟨q5, hq5, h⟩ := wt_bi h
    refine wt_callVv hE [.int x1] wt_lm_md_310 wt_ya_md_needsText (wp_md_needsText_ok hD hq5) (by omega) (hD 108 (by decide) (by decide)) wt_L108 rfl rfl rfl (Nat.le_of_ble_eq_true rfl) (Nat.zero_le _) wp_md_can_d30 ?_
    refine wt_aload_n hE wp_md_can_d33 rfl ?_
    obtain ⟨q6, hq6, h⟩ := wt_bi h
    refine wt_callVi hE [] wt_lm_md_295 wt_ya_md_often (wp_md_often_ok hD hq6) (by omega) (hD 108 (by decide) (by decide)) wt_L108 rfl rfl rfl (Nat.le_of_ble_eq_true rfl) (Nat.zero_le _) wp_md_can_d34 (fun hbq6 => ?_)
    cases h
    exact wt_iret hE hR wp_md_can_d37
  · have h := wt_in c4 h
    refine wt_iconst hE (0 : Int32) wp_md_can_d26 wt_ci_0 ?_
    cases h
    exact wt_iret hE hR wp_md_can_d27
noncomputable def wp_md_can (n : Nat) (x1 : Int32) (σ : wt_St) : Option (Int32 × wt_St) :=
  (wp_md_isText n x1 (wt_sf σ 108 0 (0 : Int32))).bind fun q1 =>
  if q1.1 = 0 then
    wp_md_can_B19 n x1 (1 : Int32) q1.2
  else
    wp_md_can_B19 n x1 (0 : Int32) q1.2
set_option maxRecDepth 100000 in
set_option maxHeartbeats 4000000 in
theorem wp_md_can_ok {l : Launch} {w : wt_E} {n : Nat} {x1 : Int32} (hD : ∀ i, 108 ≤ i → i < 321 → wt_dom w i) {σ : wt_St} {q : Int32 × wt_St} (h : wp_md_can n x1 σ = some q) : wt_Ctr l w wt_y_md_can prog_13_method_49_code 2 (some .int) 4 [.ref (wt_ad w 108), .int x1] σ (some q.1) q.2 := by
  refine wt_ctr wt_pl_md_can rfl (Nat.le_of_ble_eq_true rfl) [some (.ref (wt_ad w 108)), some (.int x1)] rfl ?_
  intro X hXl hXw hE hR
  subst hXl
  subst hXw
  have hE : wt_Ok X prog_13_method_49_code 2 "WornTypeModel" 4 0 := hE
  unfold wp_md_can at h
  refine wt_aload_n hE wp_md_can_d0 rfl ?_
  refine wt_iconst hE (0 : Int32) wp_md_can_d1 wt_ci_0 ?_
  refine wt_puti hE wt_lf_md_151 (hD 108 (by decide) (by decide)) wt_L108 rfl (fun q hq => by cases hq; rfl) wp_md_can_d2 ?_
  refine wt_aload_n hE wp_md_can_d5 rfl ?_
  refine wt_aload_n hE wp_md_can_d6 rfl ?_
  refine wt_iload_n hE wp_md_can_d7 rfl ?_
  obtain ⟨q1, hq1, h⟩ := wt_bi h
  refine wt_callVi hE [.int x1] wt_lm_md_307 wt_ya_md_isText (wp_md_isText_ok hD hq1) (by omega) (hD 108 (by decide) (by decide)) wt_L108 rfl rfl rfl (Nat.le_of_ble_eq_true rfl) (Nat.zero_le _) wp_md_can_d8 (fun hbq1 => ?_)
  refine wt_if_ne hE 18 wp_md_can_d11 rfl (fun c2 => ?_) (fun c2 => ?_)
  · have h := wt_in c2 h
    refine wt_iconst hE (0 : Int32) wp_md_can_d18 wt_ci_0 ?_
    exact wp_md_can_B19_ok hE hR hD h
  · have h := wt_ip c2 h
    refine wt_iconst hE (1 : Int32) wp_md_can_d14 wt_ci_1 ?_
    refine wt_goto hE 19 wp_md_can_d15 rfl ?_
    exact wp_md_can_B19_ok hE hR hD h
def wb15m5_prog_13_method_43_code_r0 : List (List Nat) := [42, 182, 1, 27, 42, 27, 182, 1, 30, 42, 182, 1, 39, 172] :: []
set_option maxRecDepth 100000 in
theorem wb15m5_prog_13_method_43_code_c0 : wt_cs prog_13_method_43_code 0 wb15m5_prog_13_method_43_code_r0 := wt_cs_of (by decide +kernel)
theorem wp_md_canWord_d0 : decode prog_13_method_43_code 0 = .ok (.aload_n 0, 1) := wt_op42 wb15m5_prog_13_method_43_code_c0 0 rfl rfl
theorem wp_md_canWord_d1 : decode prog_13_method_43_code 1 = .ok (.invokevirtual 283, 3) := wt_op182 wb15m5_prog_13_method_43_code_c0 1 rfl rfl rfl
theorem wp_md_canWord_d4 : decode prog_13_method_43_code 4 = .ok (.aload_n 0, 1) := wt_op42 wb15m5_prog_13_method_43_code_c0 4 rfl rfl
theorem wp_md_canWord_d5 : decode prog_13_method_43_code 5 = .ok (.iload_n 1, 1) := wt_op27 wb15m5_prog_13_method_43_code_c0 5 rfl rfl
theorem wp_md_canWord_d6 : decode prog_13_method_43_code 6 = .ok (.invokevirtual 286, 3) := wt_op182 wb15m5_prog_13_method_43_code_c0 6 rfl rfl rfl
theorem wp_md_canWord_d9 : decode prog_13_method_43_code 9 = .ok (.aload_n 0, 1) := wt_op42 wb15m5_prog_13_method_43_code_c0 9 rfl rfl
theorem wp_md_canWord_d10 : decode prog_13_method_43_code 10 = .ok (.invokevirtual 295, 3) := wt_op182 wb15m5_prog_13_method_43_code_c0 10 rfl rfl rfl
theorem wp_md_canWord_d13 : decode prog_13_method_43_code 13 = .ok (.ireturn, 1) := wt_op172 wb15m5_prog_13_method_43_code_c0 13 rfl rfl
noncomputable def wp_md_canWord (n : Nat) (x1 : Int32) (σ : wt_St) : Option (Int32 × wt_St) :=
  (wp_md_needsNone n σ).bind fun q1 =>
  (wp_md_needsWord n x1 q1).bind fun q2 =>
  (wp_md_often n q2).bind fun q3 =>
  some (q3.1, q3.2)
set_option maxRecDepth 100000 in
set_option maxHeartbeats 4000000 in
theorem wp_md_canWord_ok {l : Launch} {w : wt_E} {n : Nat} {x1 : Int32} (hD : ∀ i, 108 ≤ i → i < 321 → wt_dom w i) {σ : wt_St} {q : Int32 × wt_St} (h : wp_md_canWord n x1 σ = some q) : wt_Ctr l w wt_y_md_canWord prog_13_method_43_code 2 (some .int) 4 [.ref (wt_ad w 108), .int x1] σ (some q.1) q.2 := by
  refine wt_ctr wt_pl_md_canWord rfl (Nat.le_of_ble_eq_true rfl) [some (.ref (wt_ad w 108)), some (.int x1)] rfl ?_
  intro X hXl hXw hE hR
  subst hXl
  subst hXw
  have hE : wt_Ok X prog_13_method_43_code 2 "WornTypeModel" 4 0 := hE
  unfold wp_md_canWord at h
  refine wt_aload_n hE wp_md_canWord_d0 rfl ?_
  obtain ⟨q1, hq1, h⟩ := wt_bi h
  refine wt_callVv hE [] wt_lm_md_283 wt_ya_md_needsNone (wp_md_needsNone_ok hD hq1) (by omega) (hD 108 (by decide) (by decide)) wt_L108 rfl rfl rfl (Nat.le_of_ble_eq_true rfl) (Nat.zero_le _) wp_md_canWord_d1 ?_
  refine wt_aload_n hE wp_md_canWord_d4 rfl ?_
  refine wt_iload_n hE wp_md_canWord_d5 rfl ?_
  obtain ⟨q2, hq2, h⟩ := wt_bi h
  refine wt_callVv hE [.int x1] wt_lm_md_286 wt_ya_md_needsWord (wp_md_needsWord_ok hD hq2) (by omega) (hD 108 (by decide) (by decide)) wt_L108 rfl rfl rfl (Nat.le_of_ble_eq_true rfl) (Nat.zero_le _) wp_md_canWord_d6 ?_
  refine wt_aload_n hE wp_md_canWord_d9 rfl ?_
  obtain ⟨q3, hq3, h⟩ := wt_bi h
  refine wt_callVi hE [] wt_lm_md_295 wt_ya_md_often (wp_md_often_ok hD hq3) (by omega) (hD 108 (by decide) (by decide)) wt_L108 rfl rfl rfl (Nat.le_of_ble_eq_true rfl) (Nat.zero_le _) wp_md_canWord_d10 (fun hbq3 => ?_)
  cases h
  exact wt_iret hE hR wp_md_canWord_d13
def wb15m5_prog_13_method_50_code_r0 : List (List Nat) := [26, 4, 17, 1, 144, 184, 0, 185, 172] :: []
set_option maxRecDepth 100000 in
theorem wb15m5_prog_13_method_50_code_c0 : wt_cs prog_13_method_50_code 0 wb15m5_prog_13_method_50_code_r0 := wt_cs_of (by decide +kernel)
theorem wp_md_isCopies_d0 : decode prog_13_method_50_code 0 = .ok (.iload_n 0, 1) := wt_op26 wb15m5_prog_13_method_50_code_c0 0 rfl rfl
theorem wp_md_isCopies_d1 : decode prog_13_method_50_code 1 = .ok (.iconst 1, 1) := wt_op4 wb15m5_prog_13_method_50_code_c0 1 rfl rfl
theorem wp_md_isCopies_d2 : decode prog_13_method_50_code 2 = .ok (.sipush 400, 3) := wt_op17 wb15m5_prog_13_method_50_code_c0 2 rfl rfl rfl
theorem wp_md_isCopies_d5 : decode prog_13_method_50_code 5 = .ok (.invokestatic 185, 3) := wt_op184 wb15m5_prog_13_method_50_code_c0 5 rfl rfl rfl
theorem wp_md_isCopies_d8 : decode prog_13_method_50_code 8 = .ok (.ireturn, 1) := wt_op172 wb15m5_prog_13_method_50_code_c0 8 rfl rfl
noncomputable def wp_md_isCopies (n : Nat) (x0 : Int32) (σ : wt_St) : Option (Int32 × wt_St) :=
  (wp_md_in n x0 (1 : Int32) (400 : Int32) σ).bind fun q1 =>
  some (q1.1, q1.2)
set_option maxRecDepth 100000 in
set_option maxHeartbeats 4000000 in
theorem wp_md_isCopies_ok {l : Launch} {w : wt_E} {n : Nat} {x0 : Int32} {σ : wt_St} {q : Int32 × wt_St} (h : wp_md_isCopies n x0 σ = some q) : wt_Ctr l w wt_y_md_isCopies prog_13_method_50_code 1 (some .boolean) 1 [.int x0] σ (some q.1) q.2 := by
  refine wt_ctr wt_pl_md_isCopies rfl (Nat.le_of_ble_eq_true rfl) [some (.int x0)] rfl ?_
  intro X hXl hXw hE hR
  subst hXl
  subst hXw
  have hE : wt_Ok X prog_13_method_50_code 1 "WornTypeModel" 1 0 := hE
  unfold wp_md_isCopies at h
  refine wt_iload_n hE wp_md_isCopies_d0 rfl ?_
  refine wt_iconst hE (1 : Int32) wp_md_isCopies_d1 wt_ci_1 ?_
  refine wt_sipush hE (400 : Int32) wp_md_isCopies_d2 wt_cs_400 ?_
  obtain ⟨q1, hq1, h⟩ := wt_bi h
  refine wt_callSi hE [.int x0, .int (1 : Int32), .int (400 : Int32)] wt_lm_md_185 wt_ya_md_in (wp_md_in_ok hq1) (by omega) rfl rfl (Nat.le_of_ble_eq_true rfl) (Nat.zero_le _) wp_md_isCopies_d5 (fun hbq1 => ?_)
  cases h
  exact wt_zret hE (hbq1 rfl _ rfl) hR wp_md_isCopies_d8
def wb15m5_prog_13_method_88_code_r1 : List (List Nat) := [27, 92, 46, 4, 96, 79, 42, 182, 1, 39, 54, 4, 42, 180, 0, 20, 27, 92, 46, 4, 100, 79, 21, 4, 172] :: []
def wb15m5_prog_13_method_88_code_r0 : List (List Nat) := [27, 42, 180, 0, 20, 27, 46, 184, 0, 227, 62, 42, 180, 0, 50, 29, 28, 79, 42, 180, 0, 59, 29, 2, 79, 42, 180, 0, 20] :: wb15m5_prog_13_method_88_code_r1
set_option maxRecDepth 100000 in
theorem wb15m5_prog_13_method_88_code_c0 : wt_cs prog_13_method_88_code 0 wb15m5_prog_13_method_88_code_r0 := wt_cs_of (by decide +kernel)
theorem wb15m5_prog_13_method_88_code_c1 : wt_cs prog_13_method_88_code 29 wb15m5_prog_13_method_88_code_r1 := wt_cs_tl (m := 29) wb15m5_prog_13_method_88_code_c0 rfl rfl
theorem wp_md_withOne_d0 : decode prog_13_method_88_code 0 = .ok (.iload_n 1, 1) := wt_op27 wb15m5_prog_13_method_88_code_c0 0 rfl rfl
theorem wp_md_withOne_d1 : decode prog_13_method_88_code 1 = .ok (.aload_n 0, 1) := wt_op42 wb15m5_prog_13_method_88_code_c0 1 rfl rfl
theorem wp_md_withOne_d2 : decode prog_13_method_88_code 2 = .ok (.getfield 20, 3) := wt_op180 wb15m5_prog_13_method_88_code_c0 2 rfl rfl rfl
theorem wp_md_withOne_d5 : decode prog_13_method_88_code 5 = .ok (.iload_n 1, 1) := wt_op27 wb15m5_prog_13_method_88_code_c0 5 rfl rfl
theorem wp_md_withOne_d6 : decode prog_13_method_88_code 6 = .ok (.iaload, 1) := wt_op46 wb15m5_prog_13_method_88_code_c0 6 rfl rfl
theorem wp_md_withOne_d7 : decode prog_13_method_88_code 7 = .ok (.invokestatic 227, 3) := wt_op184 wb15m5_prog_13_method_88_code_c0 7 rfl rfl rfl
theorem wp_md_withOne_d10 : decode prog_13_method_88_code 10 = .ok (.istore_n 3, 1) := wt_op62 wb15m5_prog_13_method_88_code_c0 10 rfl rfl
theorem wp_md_withOne_d11 : decode prog_13_method_88_code 11 = .ok (.aload_n 0, 1) := wt_op42 wb15m5_prog_13_method_88_code_c0 11 rfl rfl
theorem wp_md_withOne_d12 : decode prog_13_method_88_code 12 = .ok (.getfield 50, 3) := wt_op180 wb15m5_prog_13_method_88_code_c0 12 rfl rfl rfl
theorem wp_md_withOne_d15 : decode prog_13_method_88_code 15 = .ok (.iload_n 3, 1) := wt_op29 wb15m5_prog_13_method_88_code_c0 15 rfl rfl
theorem wp_md_withOne_d16 : decode prog_13_method_88_code 16 = .ok (.iload_n 2, 1) := wt_op28 wb15m5_prog_13_method_88_code_c0 16 rfl rfl
theorem wp_md_withOne_d17 : decode prog_13_method_88_code 17 = .ok (.iastore, 1) := wt_op79 wb15m5_prog_13_method_88_code_c0 17 rfl rfl
theorem wp_md_withOne_d18 : decode prog_13_method_88_code 18 = .ok (.aload_n 0, 1) := wt_op42 wb15m5_prog_13_method_88_code_c0 18 rfl rfl
theorem wp_md_withOne_d19 : decode prog_13_method_88_code 19 = .ok (.getfield 59, 3) := wt_op180 wb15m5_prog_13_method_88_code_c0 19 rfl rfl rfl
theorem wp_md_withOne_d22 : decode prog_13_method_88_code 22 = .ok (.iload_n 3, 1) := wt_op29 wb15m5_prog_13_method_88_code_c0 22 rfl rfl
theorem wp_md_withOne_d23 : decode prog_13_method_88_code 23 = .ok (.iconst (-1), 1) := wt_op2 wb15m5_prog_13_method_88_code_c0 23 rfl rfl
theorem wp_md_withOne_d24 : decode prog_13_method_88_code 24 = .ok (.iastore, 1) := wt_op79 wb15m5_prog_13_method_88_code_c0 24 rfl rfl
theorem wp_md_withOne_d25 : decode prog_13_method_88_code 25 = .ok (.aload_n 0, 1) := wt_op42 wb15m5_prog_13_method_88_code_c0 25 rfl rfl
theorem wp_md_withOne_d26 : decode prog_13_method_88_code 26 = .ok (.getfield 20, 3) := wt_op180 wb15m5_prog_13_method_88_code_c0 26 rfl rfl rfl
theorem wp_md_withOne_d29 : decode prog_13_method_88_code 29 = .ok (.iload_n 1, 1) := wt_op27 wb15m5_prog_13_method_88_code_c1 0 rfl rfl
theorem wp_md_withOne_d30 : decode prog_13_method_88_code 30 = .ok (.dup2, 1) := wt_op92 wb15m5_prog_13_method_88_code_c1 1 rfl rfl
theorem wp_md_withOne_d31 : decode prog_13_method_88_code 31 = .ok (.iaload, 1) := wt_op46 wb15m5_prog_13_method_88_code_c1 2 rfl rfl
theorem wp_md_withOne_d32 : decode prog_13_method_88_code 32 = .ok (.iconst 1, 1) := wt_op4 wb15m5_prog_13_method_88_code_c1 3 rfl rfl
theorem wp_md_withOne_d33 : decode prog_13_method_88_code 33 = .ok (.iadd, 1) := wt_op96 wb15m5_prog_13_method_88_code_c1 4 rfl rfl
theorem wp_md_withOne_d34 : decode prog_13_method_88_code 34 = .ok (.iastore, 1) := wt_op79 wb15m5_prog_13_method_88_code_c1 5 rfl rfl
theorem wp_md_withOne_d35 : decode prog_13_method_88_code 35 = .ok (.aload_n 0, 1) := wt_op42 wb15m5_prog_13_method_88_code_c1 6 rfl rfl
theorem wp_md_withOne_d36 : decode prog_13_method_88_code 36 = .ok (.invokevirtual 295, 3) := wt_op182 wb15m5_prog_13_method_88_code_c1 7 rfl rfl rfl
theorem wp_md_withOne_d39 : decode prog_13_method_88_code 39 = .ok (.istore 4, 2) := wt_op54 wb15m5_prog_13_method_88_code_c1 10 rfl rfl
theorem wp_md_withOne_d41 : decode prog_13_method_88_code 41 = .ok (.aload_n 0, 1) := wt_op42 wb15m5_prog_13_method_88_code_c1 12 rfl rfl
theorem wp_md_withOne_d42 : decode prog_13_method_88_code 42 = .ok (.getfield 20, 3) := wt_op180 wb15m5_prog_13_method_88_code_c1 13 rfl rfl rfl
theorem wp_md_withOne_d45 : decode prog_13_method_88_code 45 = .ok (.iload_n 1, 1) := wt_op27 wb15m5_prog_13_method_88_code_c1 16 rfl rfl
theorem wp_md_withOne_d46 : decode prog_13_method_88_code 46 = .ok (.dup2, 1) := wt_op92 wb15m5_prog_13_method_88_code_c1 17 rfl rfl
theorem wp_md_withOne_d47 : decode prog_13_method_88_code 47 = .ok (.iaload, 1) := wt_op46 wb15m5_prog_13_method_88_code_c1 18 rfl rfl
theorem wp_md_withOne_d48 : decode prog_13_method_88_code 48 = .ok (.iconst 1, 1) := wt_op4 wb15m5_prog_13_method_88_code_c1 19 rfl rfl
theorem wp_md_withOne_d49 : decode prog_13_method_88_code 49 = .ok (.isub, 1) := wt_op100 wb15m5_prog_13_method_88_code_c1 20 rfl rfl
theorem wp_md_withOne_d50 : decode prog_13_method_88_code 50 = .ok (.iastore, 1) := wt_op79 wb15m5_prog_13_method_88_code_c1 21 rfl rfl
theorem wp_md_withOne_d51 : decode prog_13_method_88_code 51 = .ok (.iload 4, 2) := wt_op21 wb15m5_prog_13_method_88_code_c1 22 rfl rfl
theorem wp_md_withOne_d53 : decode prog_13_method_88_code 53 = .ok (.ireturn, 1) := wt_op172 wb15m5_prog_13_method_88_code_c1 24 rfl rfl
noncomputable def wp_md_withOne (n : Nat) (x1 : Int32) (x2 : Int32) (σ : wt_St) : Option (Int32 × wt_St) :=
  if x1 < 0 ∨ 26 ≤ Int32.toNatClampNeg x1 then none else
  (wp_md_cell n x1 (wt_ga σ 111 (Int32.toNatClampNeg x1)) σ).bind fun q2 =>
  if q2.1 < 0 ∨ 338 ≤ Int32.toNatClampNeg q2.1 then none else
  if q2.1 < 0 ∨ 338 ≤ Int32.toNatClampNeg q2.1 then none else
  if x1 < 0 ∨ 26 ≤ Int32.toNatClampNeg x1 then none else
  if x1 < 0 ∨ 26 ≤ Int32.toNatClampNeg x1 then none else
  (wp_md_often n (wt_sa (wt_sa (wt_sa q2.2 121 (Int32.toNatClampNeg q2.1) x2) 124 (Int32.toNatClampNeg q2.1) (-1 : Int32)) 111 (Int32.toNatClampNeg x1) ((wt_ga (wt_sa (wt_sa q2.2 121 (Int32.toNatClampNeg q2.1) x2) 124 (Int32.toNatClampNeg q2.1) (-1 : Int32)) 111 (Int32.toNatClampNeg x1)) + (1 : Int32)))).bind fun q7 =>
  if x1 < 0 ∨ 26 ≤ Int32.toNatClampNeg x1 then none else
  if x1 < 0 ∨ 26 ≤ Int32.toNatClampNeg x1 then none else
  some (q7.1, (wt_sa q7.2 111 (Int32.toNatClampNeg x1) ((wt_ga q7.2 111 (Int32.toNatClampNeg x1)) - (1 : Int32))))
set_option maxRecDepth 100000 in
set_option maxHeartbeats 4000000 in
theorem wp_md_withOne_ok {l : Launch} {w : wt_E} {n : Nat} {x1 : Int32} {x2 : Int32} (hD : ∀ i, 108 ≤ i → i < 321 → wt_dom w i) {σ : wt_St} {q : Int32 × wt_St} (h : wp_md_withOne n x1 x2 σ = some q) : wt_Ctr l w wt_y_md_withOne prog_13_method_88_code 5 (some .int) 4 [.ref (wt_ad w 108), .int x1, .int x2] σ (some q.1) q.2 := by
  refine wt_ctr wt_pl_md_withOne rfl (Nat.le_of_ble_eq_true rfl) [some (.ref (wt_ad w 108)), some (.int x1), some (.int x2), none, none] rfl ?_
  intro X hXl hXw hE hR
  subst hXl
  subst hXw
  have hE : wt_Ok X prog_13_method_88_code 5 "WornTypeModel" 4 0 := hE
  unfold wp_md_withOne at h
  refine wt_iload_n hE wp_md_withOne_d0 rfl ?_
  refine wt_aload_n hE wp_md_withOne_d1 rfl ?_
  refine wt_getr hE (r := 111) wt_lf_md_20 (hD 108 (by decide) (by decide)) wt_L108 rfl wp_md_withOne_d2 ?_
  refine wt_iload_n hE wp_md_withOne_d5 rfl ?_
  obtain ⟨g1, h⟩ := wt_gd h
  refine wt_iald hE (hD 111 (by decide) (by decide)) wt_L111 g1 wp_md_withOne_d6 ?_
  obtain ⟨q2, hq2, h⟩ := wt_bi h
  refine wt_callSi hE [.int x1, .int (wt_ga σ 111 (Int32.toNatClampNeg x1))] wt_lm_md_227 wt_ya_md_cell (wp_md_cell_ok hq2) (by omega) rfl rfl (Nat.le_of_ble_eq_true rfl) (Nat.zero_le _) wp_md_withOne_d7 (fun hbq2 => ?_)
  refine wt_istore_n hE [some (.ref (wt_ad (wt_xw X) 108)), some (.int x1), some (.int x2), some (.int q2.1), none] wp_md_withOne_d10 (by decide) rfl ?_
  refine wt_aload_n hE wp_md_withOne_d11 rfl ?_
  refine wt_getr hE (r := 121) wt_lf_md_50 (hD 108 (by decide) (by decide)) wt_L108 rfl wp_md_withOne_d12 ?_
  refine wt_iload_n hE wp_md_withOne_d15 rfl ?_
  refine wt_iload_n hE wp_md_withOne_d16 rfl ?_
  obtain ⟨g3, h⟩ := wt_gd h
  refine wt_iast hE (hD 121 (by decide) (by decide)) wt_L121 g3 wp_md_withOne_d17 ?_
  refine wt_aload_n hE wp_md_withOne_d18 rfl ?_
  refine wt_getr hE (r := 124) wt_lf_md_59 (hD 108 (by decide) (by decide)) wt_L108 rfl wp_md_withOne_d19 ?_
  refine wt_iload_n hE wp_md_withOne_d22 rfl ?_
  refine wt_iconst hE (-1 : Int32) wp_md_withOne_d23 wt_ci_m1 ?_
  obtain ⟨g4, h⟩ := wt_gd h
  refine wt_iast hE (hD 124 (by decide) (by decide)) wt_L124 g4 wp_md_withOne_d24 ?_
  refine wt_aload_n hE wp_md_withOne_d25 rfl ?_
  refine wt_getr hE (r := 111) wt_lf_md_20 (hD 108 (by decide) (by decide)) wt_L108 rfl wp_md_withOne_d26 ?_
  refine wt_iload_n hE wp_md_withOne_d29 rfl ?_
  refine wt_dup2 hE wp_md_withOne_d30 rfl rfl ?_
  obtain ⟨g5, h⟩ := wt_gd h
  refine wt_iald hE (hD 111 (by decide) (by decide)) wt_L111 g5 wp_md_withOne_d31 ?_
  refine wt_iconst hE (1 : Int32) wp_md_withOne_d32 wt_ci_1 ?_
  refine wt_iadd hE wp_md_withOne_d33 ?_
  obtain ⟨g6, h⟩ := wt_gd h
  refine wt_iast hE (hD 111 (by decide) (by decide)) wt_L111 g6 wp_md_withOne_d34 ?_
  refine wt_aload_n hE wp_md_withOne_d35 rfl ?_
  obtain ⟨q7, hq7, h⟩ := wt_bi h
  refine wt_callVi hE [] wt_lm_md_295 wt_ya_md_often (wp_md_often_ok hD hq7) (by omega) (hD 108 (by decide) (by decide)) wt_L108 rfl rfl rfl (Nat.le_of_ble_eq_true rfl) (Nat.zero_le _) wp_md_withOne_d36 (fun hbq7 => ?_)
  refine wt_istore hE [some (.ref (wt_ad (wt_xw X) 108)), some (.int x1), some (.int x2), some (.int q2.1), some (.int q7.1)] wp_md_withOne_d39 (Nat.le_of_ble_eq_true rfl) rfl ?_
  refine wt_aload_n hE wp_md_withOne_d41 rfl ?_
  refine wt_getr hE (r := 111) wt_lf_md_20 (hD 108 (by decide) (by decide)) wt_L108 rfl wp_md_withOne_d42 ?_
  refine wt_iload_n hE wp_md_withOne_d45 rfl ?_
  refine wt_dup2 hE wp_md_withOne_d46 rfl rfl ?_
  obtain ⟨g8, h⟩ := wt_gd h
  refine wt_iald hE (hD 111 (by decide) (by decide)) wt_L111 g8 wp_md_withOne_d47 ?_
  refine wt_iconst hE (1 : Int32) wp_md_withOne_d48 wt_ci_1 ?_
  refine wt_isub hE wp_md_withOne_d49 ?_
  obtain ⟨g9, h⟩ := wt_gd h
  refine wt_iast hE (hD 111 (by decide) (by decide)) wt_L111 g9 wp_md_withOne_d50 ?_
  refine wt_iload hE wp_md_withOne_d51 rfl ?_
  cases h
  exact wt_iret hE hR wp_md_withOne_d53
def wb15m5_prog_13_method_89_code_r3 : List (List Nat) := [167, 0, 10, 21, 6, 62, 21, 5, 54, 4, 132, 5, 1, 167, 255, 221, 21, 4, 172] :: []
def wb15m5_prog_13_method_89_code_r2 : List (List Nat) := [62, 2, 54, 4, 3, 54, 5, 21, 5, 16, 26, 162, 0, 34, 42, 21, 5, 28, 182, 1, 125, 54, 6, 21, 6, 29, 163, 0, 6] :: wb15m5_prog_13_method_89_code_r3
def wb15m5_prog_13_method_89_code_r1 : List (List Nat) := [184, 1, 57, 154, 0, 7, 4, 167, 0, 4, 3, 5, 182, 0, 230, 153, 0, 5, 3, 172, 42, 27, 182, 1, 54, 42, 182, 1, 39] :: wb15m5_prog_13_method_89_code_r2
def wb15m5_prog_13_method_89_code_r0 : List (List Nat) := [42, 3, 181, 0, 151, 42, 42, 27, 182, 1, 51, 154, 0, 7, 4, 167, 0, 4, 3, 4, 182, 0, 230, 154, 0, 23, 42, 28] :: wb15m5_prog_13_method_89_code_r1
set_option maxRecDepth 100000 in
theorem wb15m5_prog_13_method_89_code_c0 : wt_cs prog_13_method_89_code 0 wb15m5_prog_13_method_89_code_r0 := wt_cs_of (by decide +kernel)
theorem wb15m5_prog_13_method_89_code_c1 : wt_cs prog_13_method_89_code 28 wb15m5_prog_13_method_89_code_r1 := wt_cs_tl (m := 28) wb15m5_prog_13_method_89_code_c0 rfl rfl
theorem wb15m5_prog_13_method_89_code_c2 : wt_cs prog_13_method_89_code 57 wb15m5_prog_13_method_89_code_r2 := wt_cs_tl (m := 29) wb15m5_prog_13_method_89_code_c1 rfl rfl
theorem wb15m5_prog_13_method_89_code_c3 : wt_cs prog_13_method_89_code 86 wb15m5_prog_13_method_89_code_r3 := wt_cs_tl (m := 29) wb15m5_prog_13_method_89_code_c2 rfl rfl
theorem wp_md_cast_d0 : decode prog_13_method_89_code 0 = .ok (.aload_n 0, 1) := wt_op42 wb15m5_prog_13_method_89_code_c0 0 rfl rfl
theorem wp_md_cast_d1 : decode prog_13_method_89_code 1 = .ok (.iconst 0, 1) := wt_op3 wb15m5_prog_13_method_89_code_c0 1 rfl rfl
theorem wp_md_cast_d2 : decode prog_13_method_89_code 2 = .ok (.putfield 151, 3) := wt_op181 wb15m5_prog_13_method_89_code_c0 2 rfl rfl rfl
theorem wp_md_cast_d5 : decode prog_13_method_89_code 5 = .ok (.aload_n 0, 1) := wt_op42 wb15m5_prog_13_method_89_code_c0 5 rfl rfl
theorem wp_md_cast_d6 : decode prog_13_method_89_code 6 = .ok (.aload_n 0, 1) := wt_op42 wb15m5_prog_13_method_89_code_c0 6 rfl rfl
theorem wp_md_cast_d7 : decode prog_13_method_89_code 7 = .ok (.iload_n 1, 1) := wt_op27 wb15m5_prog_13_method_89_code_c0 7 rfl rfl
theorem wp_md_cast_d8 : decode prog_13_method_89_code 8 = .ok (.invokevirtual 307, 3) := wt_op182 wb15m5_prog_13_method_89_code_c0 8 rfl rfl rfl
theorem wp_md_cast_d11 : decode prog_13_method_89_code 11 = .ok (.ifCond .ne 7, 3) := wt_op154 wb15m5_prog_13_method_89_code_c0 11 rfl rfl rfl
theorem wp_md_cast_d14 : decode prog_13_method_89_code 14 = .ok (.iconst 1, 1) := wt_op4 wb15m5_prog_13_method_89_code_c0 14 rfl rfl
theorem wp_md_cast_d15 : decode prog_13_method_89_code 15 = .ok (.goto 4, 3) := wt_op167 wb15m5_prog_13_method_89_code_c0 15 rfl rfl rfl
theorem wp_md_cast_d18 : decode prog_13_method_89_code 18 = .ok (.iconst 0, 1) := wt_op3 wb15m5_prog_13_method_89_code_c0 18 rfl rfl
theorem wp_md_cast_d19 : decode prog_13_method_89_code 19 = .ok (.iconst 1, 1) := wt_op4 wb15m5_prog_13_method_89_code_c0 19 rfl rfl
theorem wp_md_cast_d20 : decode prog_13_method_89_code 20 = .ok (.invokevirtual 230, 3) := wt_op182 wb15m5_prog_13_method_89_code_c0 20 rfl rfl rfl
theorem wp_md_cast_d23 : decode prog_13_method_89_code 23 = .ok (.ifCond .ne 23, 3) := wt_op154 wb15m5_prog_13_method_89_code_c0 23 rfl rfl rfl
theorem wp_md_cast_d26 : decode prog_13_method_89_code 26 = .ok (.aload_n 0, 1) := wt_op42 wb15m5_prog_13_method_89_code_c0 26 rfl rfl
theorem wp_md_cast_d27 : decode prog_13_method_89_code 27 = .ok (.iload_n 2, 1) := wt_op28 wb15m5_prog_13_method_89_code_c0 27 rfl rfl
theorem wp_md_cast_d28 : decode prog_13_method_89_code 28 = .ok (.invokestatic 313, 3) := wt_op184 wb15m5_prog_13_method_89_code_c1 0 rfl rfl rfl
theorem wp_md_cast_d31 : decode prog_13_method_89_code 31 = .ok (.ifCond .ne 7, 3) := wt_op154 wb15m5_prog_13_method_89_code_c1 3 rfl rfl rfl
theorem wp_md_cast_d34 : decode prog_13_method_89_code 34 = .ok (.iconst 1, 1) := wt_op4 wb15m5_prog_13_method_89_code_c1 6 rfl rfl
theorem wp_md_cast_d35 : decode prog_13_method_89_code 35 = .ok (.goto 4, 3) := wt_op167 wb15m5_prog_13_method_89_code_c1 7 rfl rfl rfl
theorem wp_md_cast_d38 : decode prog_13_method_89_code 38 = .ok (.iconst 0, 1) := wt_op3 wb15m5_prog_13_method_89_code_c1 10 rfl rfl
theorem wp_md_cast_d39 : decode prog_13_method_89_code 39 = .ok (.iconst 2, 1) := wt_op5 wb15m5_prog_13_method_89_code_c1 11 rfl rfl
theorem wp_md_cast_d40 : decode prog_13_method_89_code 40 = .ok (.invokevirtual 230, 3) := wt_op182 wb15m5_prog_13_method_89_code_c1 12 rfl rfl rfl
theorem wp_md_cast_d43 : decode prog_13_method_89_code 43 = .ok (.ifCond .eq 5, 3) := wt_op153 wb15m5_prog_13_method_89_code_c1 15 rfl rfl rfl
theorem wp_md_cast_d46 : decode prog_13_method_89_code 46 = .ok (.iconst 0, 1) := wt_op3 wb15m5_prog_13_method_89_code_c1 18 rfl rfl
theorem wp_md_cast_d47 : decode prog_13_method_89_code 47 = .ok (.ireturn, 1) := wt_op172 wb15m5_prog_13_method_89_code_c1 19 rfl rfl
theorem wp_md_cast_d48 : decode prog_13_method_89_code 48 = .ok (.aload_n 0, 1) := wt_op42 wb15m5_prog_13_method_89_code_c1 20 rfl rfl
theorem wp_md_cast_d49 : decode prog_13_method_89_code 49 = .ok (.iload_n 1, 1) := wt_op27 wb15m5_prog_13_method_89_code_c1 21 rfl rfl
theorem wp_md_cast_d50 : decode prog_13_method_89_code 50 = .ok (.invokevirtual 310, 3) := wt_op182 wb15m5_prog_13_method_89_code_c1 22 rfl rfl rfl
theorem wp_md_cast_d53 : decode prog_13_method_89_code 53 = .ok (.aload_n 0, 1) := wt_op42 wb15m5_prog_13_method_89_code_c1 25 rfl rfl
theorem wp_md_cast_d54 : decode prog_13_method_89_code 54 = .ok (.invokevirtual 295, 3) := wt_op182 wb15m5_prog_13_method_89_code_c1 26 rfl rfl rfl
theorem wp_md_cast_d57 : decode prog_13_method_89_code 57 = .ok (.istore_n 3, 1) := wt_op62 wb15m5_prog_13_method_89_code_c2 0 rfl rfl
theorem wp_md_cast_d58 : decode prog_13_method_89_code 58 = .ok (.iconst (-1), 1) := wt_op2 wb15m5_prog_13_method_89_code_c2 1 rfl rfl
theorem wp_md_cast_d59 : decode prog_13_method_89_code 59 = .ok (.istore 4, 2) := wt_op54 wb15m5_prog_13_method_89_code_c2 2 rfl rfl
theorem wp_md_cast_d61 : decode prog_13_method_89_code 61 = .ok (.iconst 0, 1) := wt_op3 wb15m5_prog_13_method_89_code_c2 4 rfl rfl
theorem wp_md_cast_d62 : decode prog_13_method_89_code 62 = .ok (.istore 5, 2) := wt_op54 wb15m5_prog_13_method_89_code_c2 5 rfl rfl
theorem wp_md_cast_d64 : decode prog_13_method_89_code 64 = .ok (.iload 5, 2) := wt_op21 wb15m5_prog_13_method_89_code_c2 7 rfl rfl
theorem wp_md_cast_d66 : decode prog_13_method_89_code 66 = .ok (.bipush 26, 2) := wt_op16 wb15m5_prog_13_method_89_code_c2 9 rfl rfl rfl
theorem wp_md_cast_d68 : decode prog_13_method_89_code 68 = .ok (.if_icmp .ge 34, 3) := wt_op162 wb15m5_prog_13_method_89_code_c2 11 rfl rfl rfl
theorem wp_md_cast_d71 : decode prog_13_method_89_code 71 = .ok (.aload_n 0, 1) := wt_op42 wb15m5_prog_13_method_89_code_c2 14 rfl rfl
theorem wp_md_cast_d72 : decode prog_13_method_89_code 72 = .ok (.iload 5, 2) := wt_op21 wb15m5_prog_13_method_89_code_c2 15 rfl rfl
theorem wp_md_cast_d74 : decode prog_13_method_89_code 74 = .ok (.iload_n 2, 1) := wt_op28 wb15m5_prog_13_method_89_code_c2 17 rfl rfl
theorem wp_md_cast_d75 : decode prog_13_method_89_code 75 = .ok (.invokevirtual 381, 3) := wt_op182 wb15m5_prog_13_method_89_code_c2 18 rfl rfl rfl
theorem wp_md_cast_d78 : decode prog_13_method_89_code 78 = .ok (.istore 6, 2) := wt_op54 wb15m5_prog_13_method_89_code_c2 21 rfl rfl
theorem wp_md_cast_d80 : decode prog_13_method_89_code 80 = .ok (.iload 6, 2) := wt_op21 wb15m5_prog_13_method_89_code_c2 23 rfl rfl
theorem wp_md_cast_d82 : decode prog_13_method_89_code 82 = .ok (.iload_n 3, 1) := wt_op29 wb15m5_prog_13_method_89_code_c2 25 rfl rfl
theorem wp_md_cast_d83 : decode prog_13_method_89_code 83 = .ok (.if_icmp .gt 6, 3) := wt_op163 wb15m5_prog_13_method_89_code_c2 26 rfl rfl rfl
theorem wp_md_cast_d86 : decode prog_13_method_89_code 86 = .ok (.goto 10, 3) := wt_op167 wb15m5_prog_13_method_89_code_c3 0 rfl rfl rfl
theorem wp_md_cast_d89 : decode prog_13_method_89_code 89 = .ok (.iload 6, 2) := wt_op21 wb15m5_prog_13_method_89_code_c3 3 rfl rfl
theorem wp_md_cast_d91 : decode prog_13_method_89_code 91 = .ok (.istore_n 3, 1) := wt_op62 wb15m5_prog_13_method_89_code_c3 5 rfl rfl
theorem wp_md_cast_d92 : decode prog_13_method_89_code 92 = .ok (.iload 5, 2) := wt_op21 wb15m5_prog_13_method_89_code_c3 6 rfl rfl
theorem wp_md_cast_d94 : decode prog_13_method_89_code 94 = .ok (.istore 4, 2) := wt_op54 wb15m5_prog_13_method_89_code_c3 8 rfl rfl
theorem wp_md_cast_d96 : decode prog_13_method_89_code 96 = .ok (.iinc 5 1, 3) := wt_op132 wb15m5_prog_13_method_89_code_c3 10 rfl rfl rfl
theorem wp_md_cast_d99 : decode prog_13_method_89_code 99 = .ok (.goto (-35), 3) := wt_op167 wb15m5_prog_13_method_89_code_c3 13 rfl rfl rfl
theorem wp_md_cast_d102 : decode prog_13_method_89_code 102 = .ok (.iload 4, 2) := wt_op21 wb15m5_prog_13_method_89_code_c3 16 rfl rfl
theorem wp_md_cast_d104 : decode prog_13_method_89_code 104 = .ok (.ireturn, 1) := wt_op172 wb15m5_prog_13_method_89_code_c3 18 rfl rfl
noncomputable def wp_md_cast_B96 (n : Nat) (x2 : Int32) (x3 : Int32) (x4 : Int32) (x5 : Int32) (K64 : Int32 × Int32 × Int32 × wt_St → Option (Int32 × wt_St)) (σ : wt_St) : Option (Int32 × wt_St) :=
  K64 (x3, x4, (x5 + (1 : Int32)), σ)
set_option maxRecDepth 100000 in
set_option maxHeartbeats 4000000 in
theorem wp_md_cast_B96_ok  {x2 : Int32} {x3 : Int32} {x4 : Int32} {x5 : Int32} {X : wt_X} {n : Nat} {res : Int32 × wt_St} (hE : wt_Ok X prog_13_method_89_code 7 "WornTypeModel" 5 0) (hR : wt_Rt X (some .int) (some res.1) res.2) (hD : ∀ i, 108 ≤ i → i < 321 → wt_dom (wt_xw X) i)  {K64 : Int32 × Int32 × Int32 × wt_St → Option (Int32 × wt_St)} (hK64 : ∀ s : Int32 × Int32 × Int32 × wt_St, K64 s = some res → wt_V X 0 s.2.2.2 64 [some (.ref (wt_ad (wt_xw X) 108)), none, some (.int x2), some (.int s.1), some (.int s.2.1), some (.int s.2.2.1), none] []) {σ : wt_St} (h : wp_md_cast_B96 n x2 x3 x4 x5 K64 σ = some res) : wt_V X 0 σ 96 [some (.ref (wt_ad (wt_xw X) 108)), none, some (.int x2), some (.int x3), some (.int x4), some (.int x5), none] [] := by
  unfold wp_md_cast_B96 at h
  refine wt_iinc hE (x5 + (1 : Int32)) [some (.ref (wt_ad (wt_xw X) 108)), none, some (.int x2), some (.int x3), some (.int x4), some (.int (x5 + (1 : Int32))), none] wp_md_cast_d96 (by decide) rfl rfl rfl ?_
  refine wt_goto hE 64 wp_md_cast_d99 rfl ?_
  exact hK64 (x3, x4, (x5 + (1 : Int32)), σ) h
noncomputable def wp_md_cast_B64 (n : Nat) (x2 : Int32) (K64 : Int32 × Int32 × Int32 × wt_St → Option (Int32 × wt_St)) (s : Int32 × Int32 × Int32 × wt_St) : Option (Int32 × wt_St) :=
  if (26 : Int32) ≤ s.2.2.1 then
    some (s.2.1, s.2.2.2)
  else
    (wp_md_withOne n s.2.2.1 x2 s.2.2.2).bind fun q12 =>
    if s.1 < q12.1 then
      wp_md_cast_B96 n x2 q12.1 s.2.2.1 s.2.2.1 K64 q12.2
    else
      wp_md_cast_B96 n x2 s.1 s.2.1 s.2.2.1 K64 q12.2
set_option maxRecDepth 100000 in
set_option maxHeartbeats 4000000 in
theorem wp_md_cast_B64_ok  {x2 : Int32} {X : wt_X} {n : Nat} {res : Int32 × wt_St} (hE : wt_Ok X prog_13_method_89_code 7 "WornTypeModel" 5 0) (hR : wt_Rt X (some .int) (some res.1) res.2) (hD : ∀ i, 108 ≤ i → i < 321 → wt_dom (wt_xw X) i)  {K64 : Int32 × Int32 × Int32 × wt_St → Option (Int32 × wt_St)} (hK64 : ∀ s : Int32 × Int32 × Int32 × wt_St, K64 s = some res → wt_V X 0 s.2.2.2 64 [some (.ref (wt_ad (wt_xw X) 108)), none, some (.int x2), some (.int s.1), some (.int s.2.1), some (.int s.2.2.1), none] []) {s : Int32 × Int32 × Int32 × wt_St} (h : wp_md_cast_B64 n x2 K64 s = some res) : wt_V X 0 s.2.2.2 64 [some (.ref (wt_ad (wt_xw X) 108)), none, some (.int x2), some (.int s.1), some (.int s.2.1), some (.int s.2.2.1), none] [] := by
  unfold wp_md_cast_B64 at h
  refine wt_iload hE wp_md_cast_d64 rfl ?_
  refine wt_bipush hE (26 : Int32) wp_md_cast_d66 wt_cb_26 ?_
  refine wt_icmp_ge hE 102 wp_md_cast_d68 rfl (fun c11 => ?_) (fun c11 => ?_)
  · have h := wt_ip c11 h
    refine wt_iload hE wp_md_cast_d102 rfl ?_
    cases h
    exact wt_iret hE hR wp_md_cast_d104
  · have h := wt_in c11 h
    refine wt_aload_n hE wp_md_cast_d71 rfl ?_
    refine wt_iload hE wp_md_cast_d72 rfl ?_
    refine wt_iload_n hE wp_md_cast_d74 rfl ?_
    obtain ⟨q12, hq12, h⟩ := wt_bi h
    refine wt_callVi hE [.int s.2.2.1, .int x2] wt_lm_md_381 wt_ya_md_withOne (wp_md_withOne_ok hD hq12) (by omega) (hD 108 (by decide) (by decide)) wt_L108 rfl rfl rfl (Nat.le_of_ble_eq_true rfl) (Nat.zero_le _) wp_md_cast_d75 (fun hbq12 => ?_)
    refine wt_istore hE [some (.ref (wt_ad (wt_xw X) 108)), none, some (.int x2), some (.int s.1), some (.int s.2.1), some (.int s.2.2.1), some (.int q12.1)] wp_md_cast_d78 (Nat.le_of_ble_eq_true rfl) rfl ?_
    refine wt_iload hE wp_md_cast_d80 rfl ?_
    refine wt_iload_n hE wp_md_cast_d82 rfl ?_
    refine wt_icmp_gt hE 89 wp_md_cast_d83 rfl (fun c13 => ?_) (fun c13 => ?_)
    · have h := wt_ip c13 h
      refine wt_iload hE wp_md_cast_d89 rfl ?_
      refine wt_istore_n hE [some (.ref (wt_ad (wt_xw X) 108)), none, some (.int x2), some (.int q12.1), some (.int s.2.1), some (.int s.2.2.1), some (.int q12.1)] wp_md_cast_d91 (by decide) rfl ?_
      refine wt_iload hE wp_md_cast_d92 rfl ?_
      refine wt_istore hE [some (.ref (wt_ad (wt_xw X) 108)), none, some (.int x2), some (.int q12.1), some (.int s.2.2.1), some (.int s.2.2.1), some (.int q12.1)] wp_md_cast_d94 (Nat.le_of_ble_eq_true rfl) rfl ?_
      refine wt_wk [true, true, true, true, true, true, false] rfl ?_
      exact wp_md_cast_B96_ok hE hR hD hK64 h
    · have h := wt_in c13 h
      refine wt_goto hE 96 wp_md_cast_d86 rfl ?_
      refine wt_wk [true, true, true, true, true, true, false] rfl ?_
      exact wp_md_cast_B96_ok hE hR hD hK64 h
noncomputable def wp_md_cast_B39 (n : Nat) (x1 : Int32) (x2 : Int32) (y1 : Int32) (σ : wt_St) : Option (Int32 × wt_St) :=
  (wp_md_bad n y1 (2 : Int32) σ).bind fun q7 =>
  if q7.1 = 0 then
    (wp_md_needsText n x1 q7.2).bind fun q9 =>
    (wp_md_often n q9).bind fun q10 =>
    wt_it (wp_md_cast_B64 n x2) n (q10.1, (-1 : Int32), (0 : Int32), q10.2)
  else
    some ((0 : Int32), q7.2)
set_option maxRecDepth 100000 in
set_option maxHeartbeats 4000000 in
theorem wp_md_cast_B39_ok  {x1 : Int32} {x2 : Int32} {X : wt_X} {n : Nat} {res : Int32 × wt_St} (hE : wt_Ok X prog_13_method_89_code 7 "WornTypeModel" 5 0) (hR : wt_Rt X (some .int) (some res.1) res.2) (hD : ∀ i, 108 ≤ i → i < 321 → wt_dom (wt_xw X) i)  {σ : wt_St} {y1 : Int32} (h : wp_md_cast_B39 n x1 x2 y1 σ = some res) : wt_V X 0 σ 39 [some (.ref (wt_ad (wt_xw X) 108)), some (.int x1), some (.int x2), none, none, none, none] [.int y1, .ref (wt_ad (wt_xw X) 108)] := by
  unfold wp_md_cast_B39 at h
  refine wt_iconst hE (2 : Int32) wp_md_cast_d39 wt_ci_2 ?_
  obtain ⟨q7, hq7, h⟩ := wt_bi h
  refine wt_callVi hE [.int y1, .int (2 : Int32)] wt_lm_md_230 wt_ya_md_bad (wp_md_bad_ok hD hq7) (by omega) (hD 108 (by decide) (by decide)) wt_L108 rfl rfl rfl (Nat.le_of_ble_eq_true rfl) (Nat.zero_le _) wp_md_cast_d40 (fun hbq7 => ?_)
  refine wt_if_eq hE 48 wp_md_cast_d43 rfl (fun c8 => ?_) (fun c8 => ?_)
  · have h := wt_ip c8 h
    refine wt_aload_n hE wp_md_cast_d48 rfl ?_
    refine wt_iload_n hE wp_md_cast_d49 rfl ?_
    obtain ⟨q9, hq9, h⟩ := wt_bi h
    refine wt_callVv hE [.int x1] wt_lm_md_310 wt_ya_md_needsText (wp_md_needsText_ok hD hq9) (by omega) (hD 108 (by decide) (by decide)) wt_L108 rfl rfl rfl (Nat.le_of_ble_eq_true rfl) (Nat.zero_le _) wp_md_cast_d50 ?_
    refine wt_aload_n hE wp_md_cast_d53 rfl ?_
    obtain ⟨q10, hq10, h⟩ := wt_bi h
    refine wt_callVi hE [] wt_lm_md_295 wt_ya_md_often (wp_md_often_ok hD hq10) (by omega) (hD 108 (by decide) (by decide)) wt_L108 rfl rfl rfl (Nat.le_of_ble_eq_true rfl) (Nat.zero_le _) wp_md_cast_d54 (fun hbq10 => ?_)
    refine wt_istore_n hE [some (.ref (wt_ad (wt_xw X) 108)), some (.int x1), some (.int x2), some (.int q10.1), none, none, none] wp_md_cast_d57 (by decide) rfl ?_
    refine wt_iconst hE (-1 : Int32) wp_md_cast_d58 wt_ci_m1 ?_
    refine wt_istore hE [some (.ref (wt_ad (wt_xw X) 108)), some (.int x1), some (.int x2), some (.int q10.1), some (.int (-1 : Int32)), none, none] wp_md_cast_d59 (Nat.le_of_ble_eq_true rfl) rfl ?_
    refine wt_iconst hE (0 : Int32) wp_md_cast_d61 wt_ci_0 ?_
    refine wt_istore hE [some (.ref (wt_ad (wt_xw X) 108)), some (.int x1), some (.int x2), some (.int q10.1), some (.int (-1 : Int32)), some (.int (0 : Int32)), none] wp_md_cast_d62 (Nat.le_of_ble_eq_true rfl) rfl ?_
    refine wt_wk [true, false, true, true, true, true, true] rfl ?_
    exact wt_it_ind (fun z => wt_V X 0 z.2.2.2 64 [some (.ref (wt_ad (wt_xw X) 108)), none, some (.int x2), some (.int z.1), some (.int z.2.1), some (.int z.2.2.1), none] []) (fun K hK z h => wp_md_cast_B64_ok hE hR hD hK h) n (q10.1, (-1 : Int32), (0 : Int32), q10.2) h
  · have h := wt_in c8 h
    refine wt_iconst hE (0 : Int32) wp_md_cast_d46 wt_ci_0 ?_
    cases h
    exact wt_iret hE hR wp_md_cast_d47
noncomputable def wp_md_cast_B19 (n : Nat) (x1 : Int32) (x2 : Int32) (y1 : Int32) (σ : wt_St) : Option (Int32 × wt_St) :=
  (wp_md_bad n y1 (1 : Int32) σ).bind fun q3 =>
  if q3.1 = 0 then
    (wp_md_isCopies n x2 q3.2).bind fun q5 =>
    if q5.1 = 0 then
      wp_md_cast_B39 n x1 x2 (1 : Int32) q5.2
    else
      wp_md_cast_B39 n x1 x2 (0 : Int32) q5.2
  else
    some ((0 : Int32), q3.2)
set_option maxRecDepth 100000 in
set_option maxHeartbeats 4000000 in
theorem wp_md_cast_B19_ok  {x1 : Int32} {x2 : Int32} {X : wt_X} {n : Nat} {res : Int32 × wt_St} (hE : wt_Ok X prog_13_method_89_code 7 "WornTypeModel" 5 0) (hR : wt_Rt X (some .int) (some res.1) res.2) (hD : ∀ i, 108 ≤ i → i < 321 → wt_dom (wt_xw X) i)  {σ : wt_St} {y1 : Int32} (h : wp_md_cast_B19 n x1 x2 y1 σ = some res) : wt_V X 0 σ 19 [some (.ref (wt_ad (wt_xw X) 108)), some (.int x1), some (.int x2), none, none, none, none] [.int y1, .ref (wt_ad (wt_xw X) 108)] := by
  unfold wp_md_cast_B19 at h
  refine wt_iconst hE (1 : Int32) wp_md_cast_d19 wt_ci_1 ?_
  obtain ⟨q3, hq3, h⟩ := wt_bi h
  refine wt_callVi hE [.int y1, .int (1 : Int32)] wt_lm_md_230 wt_ya_md_bad (wp_md_bad_ok hD hq3) (by omega) (hD 108 (by decide) (by decide)) wt_L108 rfl rfl rfl (Nat.le_of_ble_eq_true rfl) (Nat.zero_le _) wp_md_cast_d20 (fun hbq3 => ?_)
  refine wt_if_ne hE 46 wp_md_cast_d23 rfl (fun c4 => ?_) (fun c4 => ?_)
  · have h := wt_in c4 h
    refine wt_iconst hE (0 : Int32) wp_md_cast_d46 wt_ci_0 ?_
    cases h
    exact wt_iret hE hR wp_md_cast_d47
  · have h := wt_ip c4 h
    refine wt_aload_n hE wp_md_cast_d26 rfl ?_
    refine wt_iload_n hE wp_md_cast_d27 rfl ?_
    obtain ⟨q5, hq5, h⟩ := wt_bi h
    refine wt_callSi hE [.int x2] wt_lm_md_313 wt_ya_md_isCopies (wp_md_isCopies_ok hq5) (by omega) rfl rfl (Nat.le_of_ble_eq_true rfl) (Nat.zero_le _) wp_md_cast_d28 (fun hbq5 => ?_)
    refine wt_if_ne hE 38 wp_md_cast_d31 rfl (fun c6 => ?_) (fun c6 => ?_)
    · have h := wt_in c6 h
      refine wt_iconst hE (0 : Int32) wp_md_cast_d38 wt_ci_0 ?_
      exact wp_md_cast_B39_ok hE hR hD h
    · have h := wt_ip c6 h
      refine wt_iconst hE (1 : Int32) wp_md_cast_d34 wt_ci_1 ?_
      refine wt_goto hE 39 wp_md_cast_d35 rfl ?_
      exact wp_md_cast_B39_ok hE hR hD h
noncomputable def wp_md_cast (n : Nat) (x1 : Int32) (x2 : Int32) (σ : wt_St) : Option (Int32 × wt_St) :=
  (wp_md_isText n x1 (wt_sf σ 108 0 (0 : Int32))).bind fun q1 =>
  if q1.1 = 0 then
    wp_md_cast_B19 n x1 x2 (1 : Int32) q1.2
  else
    wp_md_cast_B19 n x1 x2 (0 : Int32) q1.2
set_option maxRecDepth 100000 in
set_option maxHeartbeats 4000000 in
theorem wp_md_cast_ok {l : Launch} {w : wt_E} {n : Nat} {x1 : Int32} {x2 : Int32} (hD : ∀ i, 108 ≤ i → i < 321 → wt_dom w i) {σ : wt_St} {q : Int32 × wt_St} (h : wp_md_cast n x1 x2 σ = some q) : wt_Ctr l w wt_y_md_cast prog_13_method_89_code 7 (some .int) 5 [.ref (wt_ad w 108), .int x1, .int x2] σ (some q.1) q.2 := by
  refine wt_ctr wt_pl_md_cast rfl (Nat.le_of_ble_eq_true rfl) [some (.ref (wt_ad w 108)), some (.int x1), some (.int x2), none, none, none, none] rfl ?_
  intro X hXl hXw hE hR
  subst hXl
  subst hXw
  have hE : wt_Ok X prog_13_method_89_code 7 "WornTypeModel" 5 0 := hE
  unfold wp_md_cast at h
  refine wt_aload_n hE wp_md_cast_d0 rfl ?_
  refine wt_iconst hE (0 : Int32) wp_md_cast_d1 wt_ci_0 ?_
  refine wt_puti hE wt_lf_md_151 (hD 108 (by decide) (by decide)) wt_L108 rfl (fun q hq => by cases hq; rfl) wp_md_cast_d2 ?_
  refine wt_aload_n hE wp_md_cast_d5 rfl ?_
  refine wt_aload_n hE wp_md_cast_d6 rfl ?_
  refine wt_iload_n hE wp_md_cast_d7 rfl ?_
  obtain ⟨q1, hq1, h⟩ := wt_bi h
  refine wt_callVi hE [.int x1] wt_lm_md_307 wt_ya_md_isText (wp_md_isText_ok hD hq1) (by omega) (hD 108 (by decide) (by decide)) wt_L108 rfl rfl rfl (Nat.le_of_ble_eq_true rfl) (Nat.zero_le _) wp_md_cast_d8 (fun hbq1 => ?_)
  refine wt_if_ne hE 18 wp_md_cast_d11 rfl (fun c2 => ?_) (fun c2 => ?_)
  · have h := wt_in c2 h
    refine wt_iconst hE (0 : Int32) wp_md_cast_d18 wt_ci_0 ?_
    exact wp_md_cast_B19_ok hE hR hD h
  · have h := wt_ip c2 h
    refine wt_iconst hE (1 : Int32) wp_md_cast_d14 wt_ci_1 ?_
    refine wt_goto hE 19 wp_md_cast_d15 rfl ?_
    exact wp_md_cast_B19_ok hE hR hD h
def wb15m5_prog_13_method_8_code_r0 : List (List Nat) := [42, 180, 0, 167, 154, 0, 13, 42, 27, 181, 0, 167, 42, 28, 181, 0, 170, 177] :: []
set_option maxRecDepth 100000 in
theorem wb15m5_prog_13_method_8_code_c0 : wt_cs prog_13_method_8_code 0 wb15m5_prog_13_method_8_code_r0 := wt_cs_of (by decide +kernel)
theorem wp_md_wrong_d0 : decode prog_13_method_8_code 0 = .ok (.aload_n 0, 1) := wt_op42 wb15m5_prog_13_method_8_code_c0 0 rfl rfl
theorem wp_md_wrong_d1 : decode prog_13_method_8_code 1 = .ok (.getfield 167, 3) := wt_op180 wb15m5_prog_13_method_8_code_c0 1 rfl rfl rfl
theorem wp_md_wrong_d4 : decode prog_13_method_8_code 4 = .ok (.ifCond .ne 13, 3) := wt_op154 wb15m5_prog_13_method_8_code_c0 4 rfl rfl rfl
theorem wp_md_wrong_d7 : decode prog_13_method_8_code 7 = .ok (.aload_n 0, 1) := wt_op42 wb15m5_prog_13_method_8_code_c0 7 rfl rfl
theorem wp_md_wrong_d8 : decode prog_13_method_8_code 8 = .ok (.iload_n 1, 1) := wt_op27 wb15m5_prog_13_method_8_code_c0 8 rfl rfl
theorem wp_md_wrong_d9 : decode prog_13_method_8_code 9 = .ok (.putfield 167, 3) := wt_op181 wb15m5_prog_13_method_8_code_c0 9 rfl rfl rfl
theorem wp_md_wrong_d12 : decode prog_13_method_8_code 12 = .ok (.aload_n 0, 1) := wt_op42 wb15m5_prog_13_method_8_code_c0 12 rfl rfl
theorem wp_md_wrong_d13 : decode prog_13_method_8_code 13 = .ok (.iload_n 2, 1) := wt_op28 wb15m5_prog_13_method_8_code_c0 13 rfl rfl
theorem wp_md_wrong_d14 : decode prog_13_method_8_code 14 = .ok (.putfield 170, 3) := wt_op181 wb15m5_prog_13_method_8_code_c0 14 rfl rfl rfl
theorem wp_md_wrong_d17 : decode prog_13_method_8_code 17 = .ok (.return_, 1) := wt_op177 wb15m5_prog_13_method_8_code_c0 17 rfl rfl
noncomputable def wp_md_wrong (n : Nat) (x1 : Int32) (x2 : Int32) (σ : wt_St) : Option (wt_St) :=
  if (wt_gf σ 108 5) = 0 then
    some (wt_sf (wt_sf σ 108 5 x1) 108 6 x2)
  else
    some σ
set_option maxRecDepth 100000 in
set_option maxHeartbeats 4000000 in
theorem wp_md_wrong_ok {l : Launch} {w : wt_E} {n : Nat} {x1 : Int32} {x2 : Int32} (hD : ∀ i, 108 ≤ i → i < 321 → wt_dom w i) {σ : wt_St} {q : wt_St} (h : wp_md_wrong n x1 x2 σ = some q) : wt_Ctr l w wt_y_md_wrong prog_13_method_8_code 3 none 0 [.ref (wt_ad w 108), .int x1, .int x2] σ none q := by
  refine wt_ctr wt_pl_md_wrong rfl (Nat.le_of_ble_eq_true rfl) [some (.ref (wt_ad w 108)), some (.int x1), some (.int x2)] rfl ?_
  intro X hXl hXw hE hR
  subst hXl
  subst hXw
  have hE : wt_Ok X prog_13_method_8_code 3 "WornTypeModel" 0 0 := hE
  unfold wp_md_wrong at h
  refine wt_aload_n hE wp_md_wrong_d0 rfl ?_
  refine wt_geti hE wt_lf_md_167 (hD 108 (by decide) (by decide)) wt_L108 rfl wp_md_wrong_d1 ?_
  refine wt_if_ne hE 17 wp_md_wrong_d4 rfl (fun c1 => ?_) (fun c1 => ?_)
  · have h := wt_in c1 h
    cases h
    exact wt_vret hE hR wp_md_wrong_d17
  · have h := wt_ip c1 h
    refine wt_aload_n hE wp_md_wrong_d7 rfl ?_
    refine wt_iload_n hE wp_md_wrong_d8 rfl ?_
    refine wt_puti hE wt_lf_md_167 (hD 108 (by decide) (by decide)) wt_L108 rfl (fun q hq => by cases hq; rfl) wp_md_wrong_d9 ?_
    refine wt_aload_n hE wp_md_wrong_d12 rfl ?_
    refine wt_iload_n hE wp_md_wrong_d13 rfl ?_
    refine wt_puti hE wt_lf_md_170 (hD 108 (by decide) (by decide)) wt_L108 rfl (fun q hq => by cases hq; rfl) wp_md_wrong_d14 ?_
    cases h
    exact wt_vret hE hR wp_md_wrong_d17
def wb15m5_prog_13_method_16_code_r1 : List (List Nat) := [4, 96, 181, 0, 160, 167, 0, 12, 42, 4, 42, 180, 0, 160, 182, 0, 180, 177] :: []
def wb15m5_prog_13_method_16_code_r0 : List (List Nat) := [42, 180, 0, 167, 153, 0, 4, 177, 42, 182, 0, 173, 42, 42, 180, 0, 160, 182, 0, 163, 27, 160, 0, 16, 42, 89, 180, 0, 160] :: wb15m5_prog_13_method_16_code_r1
set_option maxRecDepth 100000 in
theorem wb15m5_prog_13_method_16_code_c0 : wt_cs prog_13_method_16_code 0 wb15m5_prog_13_method_16_code_r0 := wt_cs_of (by decide +kernel)
theorem wb15m5_prog_13_method_16_code_c1 : wt_cs prog_13_method_16_code 29 wb15m5_prog_13_method_16_code_r1 := wt_cs_tl (m := 29) wb15m5_prog_13_method_16_code_c0 rfl rfl
theorem wp_md_closes_d0 : decode prog_13_method_16_code 0 = .ok (.aload_n 0, 1) := wt_op42 wb15m5_prog_13_method_16_code_c0 0 rfl rfl
theorem wp_md_closes_d1 : decode prog_13_method_16_code 1 = .ok (.getfield 167, 3) := wt_op180 wb15m5_prog_13_method_16_code_c0 1 rfl rfl rfl
theorem wp_md_closes_d4 : decode prog_13_method_16_code 4 = .ok (.ifCond .eq 4, 3) := wt_op153 wb15m5_prog_13_method_16_code_c0 4 rfl rfl rfl
theorem wp_md_closes_d7 : decode prog_13_method_16_code 7 = .ok (.return_, 1) := wt_op177 wb15m5_prog_13_method_16_code_c0 7 rfl rfl
theorem wp_md_closes_d8 : decode prog_13_method_16_code 8 = .ok (.aload_n 0, 1) := wt_op42 wb15m5_prog_13_method_16_code_c0 8 rfl rfl
theorem wp_md_closes_d9 : decode prog_13_method_16_code 9 = .ok (.invokevirtual 173, 3) := wt_op182 wb15m5_prog_13_method_16_code_c0 9 rfl rfl rfl
theorem wp_md_closes_d12 : decode prog_13_method_16_code 12 = .ok (.aload_n 0, 1) := wt_op42 wb15m5_prog_13_method_16_code_c0 12 rfl rfl
theorem wp_md_closes_d13 : decode prog_13_method_16_code 13 = .ok (.aload_n 0, 1) := wt_op42 wb15m5_prog_13_method_16_code_c0 13 rfl rfl
theorem wp_md_closes_d14 : decode prog_13_method_16_code 14 = .ok (.getfield 160, 3) := wt_op180 wb15m5_prog_13_method_16_code_c0 14 rfl rfl rfl
theorem wp_md_closes_d17 : decode prog_13_method_16_code 17 = .ok (.invokevirtual 163, 3) := wt_op182 wb15m5_prog_13_method_16_code_c0 17 rfl rfl rfl
theorem wp_md_closes_d20 : decode prog_13_method_16_code 20 = .ok (.iload_n 1, 1) := wt_op27 wb15m5_prog_13_method_16_code_c0 20 rfl rfl
theorem wp_md_closes_d21 : decode prog_13_method_16_code 21 = .ok (.if_icmp .ne 16, 3) := wt_op160 wb15m5_prog_13_method_16_code_c0 21 rfl rfl rfl
theorem wp_md_closes_d24 : decode prog_13_method_16_code 24 = .ok (.aload_n 0, 1) := wt_op42 wb15m5_prog_13_method_16_code_c0 24 rfl rfl
theorem wp_md_closes_d25 : decode prog_13_method_16_code 25 = .ok (.dup, 1) := wt_op89 wb15m5_prog_13_method_16_code_c0 25 rfl rfl
theorem wp_md_closes_d26 : decode prog_13_method_16_code 26 = .ok (.getfield 160, 3) := wt_op180 wb15m5_prog_13_method_16_code_c0 26 rfl rfl rfl
theorem wp_md_closes_d29 : decode prog_13_method_16_code 29 = .ok (.iconst 1, 1) := wt_op4 wb15m5_prog_13_method_16_code_c1 0 rfl rfl
theorem wp_md_closes_d30 : decode prog_13_method_16_code 30 = .ok (.iadd, 1) := wt_op96 wb15m5_prog_13_method_16_code_c1 1 rfl rfl
theorem wp_md_closes_d31 : decode prog_13_method_16_code 31 = .ok (.putfield 160, 3) := wt_op181 wb15m5_prog_13_method_16_code_c1 2 rfl rfl rfl
theorem wp_md_closes_d34 : decode prog_13_method_16_code 34 = .ok (.goto 12, 3) := wt_op167 wb15m5_prog_13_method_16_code_c1 5 rfl rfl rfl
theorem wp_md_closes_d37 : decode prog_13_method_16_code 37 = .ok (.aload_n 0, 1) := wt_op42 wb15m5_prog_13_method_16_code_c1 8 rfl rfl
theorem wp_md_closes_d38 : decode prog_13_method_16_code 38 = .ok (.iconst 1, 1) := wt_op4 wb15m5_prog_13_method_16_code_c1 9 rfl rfl
theorem wp_md_closes_d39 : decode prog_13_method_16_code 39 = .ok (.aload_n 0, 1) := wt_op42 wb15m5_prog_13_method_16_code_c1 10 rfl rfl
theorem wp_md_closes_d40 : decode prog_13_method_16_code 40 = .ok (.getfield 160, 3) := wt_op180 wb15m5_prog_13_method_16_code_c1 11 rfl rfl rfl
theorem wp_md_closes_d43 : decode prog_13_method_16_code 43 = .ok (.invokevirtual 180, 3) := wt_op182 wb15m5_prog_13_method_16_code_c1 14 rfl rfl rfl
theorem wp_md_closes_d46 : decode prog_13_method_16_code 46 = .ok (.return_, 1) := wt_op177 wb15m5_prog_13_method_16_code_c1 17 rfl rfl
noncomputable def wp_md_closes (n : Nat) (x1 : Int32) (σ : wt_St) : Option (wt_St) :=
  if (wt_gf σ 108 5) = 0 then
    (wp_md_blanks n σ).bind fun q2 =>
    (wp_md_byteAt n (wt_gf q2 108 4) q2).bind fun q3 =>
    if q3.1 = x1 then
      some (wt_sf q3.2 108 4 ((wt_gf q3.2 108 4) + (1 : Int32)))
    else
      (wp_md_wrong n (1 : Int32) (wt_gf q3.2 108 4) q3.2).bind fun q5 =>
      some q5
  else
    some σ
set_option maxRecDepth 100000 in
set_option maxHeartbeats 4000000 in
theorem wp_md_closes_ok {l : Launch} {w : wt_E} {n : Nat} {x1 : Int32} (hD : ∀ i, 108 ≤ i → i < 321 → wt_dom w i) {σ : wt_St} {q : wt_St} (h : wp_md_closes n x1 σ = some q) : wt_Ctr l w wt_y_md_closes prog_13_method_16_code 2 none 2 [.ref (wt_ad w 108), .int x1] σ none q := by
  refine wt_ctr wt_pl_md_closes rfl (Nat.le_of_ble_eq_true rfl) [some (.ref (wt_ad w 108)), some (.int x1)] rfl ?_
  intro X hXl hXw hE hR
  subst hXl
  subst hXw
  have hE : wt_Ok X prog_13_method_16_code 2 "WornTypeModel" 2 0 := hE
  unfold wp_md_closes at h
  refine wt_aload_n hE wp_md_closes_d0 rfl ?_
  refine wt_geti hE wt_lf_md_167 (hD 108 (by decide) (by decide)) wt_L108 rfl wp_md_closes_d1 ?_
  refine wt_if_eq hE 8 wp_md_closes_d4 rfl (fun c1 => ?_) (fun c1 => ?_)
  · have h := wt_ip c1 h
    refine wt_aload_n hE wp_md_closes_d8 rfl ?_
    obtain ⟨q2, hq2, h⟩ := wt_bi h
    refine wt_callVv hE [] wt_lm_md_173 wt_ya_md_blanks (wp_md_blanks_ok hD hq2) (by omega) (hD 108 (by decide) (by decide)) wt_L108 rfl rfl rfl (Nat.le_of_ble_eq_true rfl) (Nat.zero_le _) wp_md_closes_d9 ?_
    refine wt_aload_n hE wp_md_closes_d12 rfl ?_
    refine wt_aload_n hE wp_md_closes_d13 rfl ?_
    refine wt_geti hE wt_lf_md_160 (hD 108 (by decide) (by decide)) wt_L108 rfl wp_md_closes_d14 ?_
    obtain ⟨q3, hq3, h⟩ := wt_bi h
    refine wt_callVi hE [.int (wt_gf q2 108 4)] wt_lm_md_163 wt_ya_md_byteAt (wp_md_byteAt_ok hD hq3) (by omega) (hD 108 (by decide) (by decide)) wt_L108 rfl rfl rfl (Nat.le_of_ble_eq_true rfl) (Nat.zero_le _) wp_md_closes_d17 (fun hbq3 => ?_)
    refine wt_iload_n hE wp_md_closes_d20 rfl ?_
    refine wt_icmp_ne hE 37 wp_md_closes_d21 rfl (fun c4 => ?_) (fun c4 => ?_)
    · have h := wt_in c4 h
      refine wt_aload_n hE wp_md_closes_d37 rfl ?_
      refine wt_iconst hE (1 : Int32) wp_md_closes_d38 wt_ci_1 ?_
      refine wt_aload_n hE wp_md_closes_d39 rfl ?_
      refine wt_geti hE wt_lf_md_160 (hD 108 (by decide) (by decide)) wt_L108 rfl wp_md_closes_d40 ?_
      obtain ⟨q5, hq5, h⟩ := wt_bi h
      refine wt_callVv hE [.int (1 : Int32), .int (wt_gf q3.2 108 4)] wt_lm_md_180 wt_ya_md_wrong (wp_md_wrong_ok hD hq5) (by omega) (hD 108 (by decide) (by decide)) wt_L108 rfl rfl rfl (Nat.le_of_ble_eq_true rfl) (Nat.zero_le _) wp_md_closes_d43 ?_
      cases h
      exact wt_vret hE hR wp_md_closes_d46
    · have h := wt_ip c4 h
      refine wt_aload_n hE wp_md_closes_d24 rfl ?_
      refine wt_dup hE wp_md_closes_d25 rfl ?_
      refine wt_geti hE wt_lf_md_160 (hD 108 (by decide) (by decide)) wt_L108 rfl wp_md_closes_d26 ?_
      refine wt_iconst hE (1 : Int32) wp_md_closes_d29 wt_ci_1 ?_
      refine wt_iadd hE wp_md_closes_d30 ?_
      refine wt_puti hE wt_lf_md_160 (hD 108 (by decide) (by decide)) wt_L108 rfl (fun q hq => by cases hq; rfl) wp_md_closes_d31 ?_
      refine wt_goto hE 46 wp_md_closes_d34 rfl ?_
      cases h
      exact wt_vret hE hR wp_md_closes_d46
  · have h := wt_in c1 h
    cases h
    exact wt_vret hE hR wp_md_closes_d7
def wb15m5_prog_13_method_10_code_r0 : List (List Nat) := [26, 16, 97, 161, 0, 13, 26, 16, 122, 163, 0, 7, 4, 167, 0, 4, 3, 172] :: []
set_option maxRecDepth 100000 in
theorem wb15m5_prog_13_method_10_code_c0 : wt_cs prog_13_method_10_code 0 wb15m5_prog_13_method_10_code_r0 := wt_cs_of (by decide +kernel)
theorem wp_md_isSmall_d0 : decode prog_13_method_10_code 0 = .ok (.iload_n 0, 1) := wt_op26 wb15m5_prog_13_method_10_code_c0 0 rfl rfl
theorem wp_md_isSmall_d1 : decode prog_13_method_10_code 1 = .ok (.bipush 97, 2) := wt_op16 wb15m5_prog_13_method_10_code_c0 1 rfl rfl rfl
theorem wp_md_isSmall_d3 : decode prog_13_method_10_code 3 = .ok (.if_icmp .lt 13, 3) := wt_op161 wb15m5_prog_13_method_10_code_c0 3 rfl rfl rfl
theorem wp_md_isSmall_d6 : decode prog_13_method_10_code 6 = .ok (.iload_n 0, 1) := wt_op26 wb15m5_prog_13_method_10_code_c0 6 rfl rfl
theorem wp_md_isSmall_d7 : decode prog_13_method_10_code 7 = .ok (.bipush 122, 2) := wt_op16 wb15m5_prog_13_method_10_code_c0 7 rfl rfl rfl
theorem wp_md_isSmall_d9 : decode prog_13_method_10_code 9 = .ok (.if_icmp .gt 7, 3) := wt_op163 wb15m5_prog_13_method_10_code_c0 9 rfl rfl rfl
theorem wp_md_isSmall_d12 : decode prog_13_method_10_code 12 = .ok (.iconst 1, 1) := wt_op4 wb15m5_prog_13_method_10_code_c0 12 rfl rfl
theorem wp_md_isSmall_d13 : decode prog_13_method_10_code 13 = .ok (.goto 4, 3) := wt_op167 wb15m5_prog_13_method_10_code_c0 13 rfl rfl rfl
theorem wp_md_isSmall_d16 : decode prog_13_method_10_code 16 = .ok (.iconst 0, 1) := wt_op3 wb15m5_prog_13_method_10_code_c0 16 rfl rfl
theorem wp_md_isSmall_d17 : decode prog_13_method_10_code 17 = .ok (.ireturn, 1) := wt_op172 wb15m5_prog_13_method_10_code_c0 17 rfl rfl
noncomputable def wp_md_isSmall (n : Nat) (x0 : Int32) (σ : wt_St) : Option (Int32 × wt_St) :=
  if x0 < (97 : Int32) then
    some ((0 : Int32), σ)
  else
    if (122 : Int32) < x0 then
      some ((0 : Int32), σ)
    else
      some ((1 : Int32), σ)
set_option maxRecDepth 100000 in
set_option maxHeartbeats 4000000 in
theorem wp_md_isSmall_ok {l : Launch} {w : wt_E} {n : Nat} {x0 : Int32} {σ : wt_St} {q : Int32 × wt_St} (h : wp_md_isSmall n x0 σ = some q) : wt_Ctr l w wt_y_md_isSmall prog_13_method_10_code 1 (some .boolean) 0 [.int x0] σ (some q.1) q.2 := by
  refine wt_ctr wt_pl_md_isSmall rfl (Nat.le_of_ble_eq_true rfl) [some (.int x0)] rfl ?_
  intro X hXl hXw hE hR
  subst hXl
  subst hXw
  have hE : wt_Ok X prog_13_method_10_code 1 "WornTypeModel" 0 0 := hE
  unfold wp_md_isSmall at h
  refine wt_iload_n hE wp_md_isSmall_d0 rfl ?_
  refine wt_bipush hE (97 : Int32) wp_md_isSmall_d1 wt_cb_97 ?_
  refine wt_icmp_lt hE 16 wp_md_isSmall_d3 rfl (fun c1 => ?_) (fun c1 => ?_)
  · have h := wt_ip c1 h
    refine wt_iconst hE (0 : Int32) wp_md_isSmall_d16 wt_ci_0 ?_
    cases h
    exact wt_zret hE (by decide) hR wp_md_isSmall_d17
  · have h := wt_in c1 h
    refine wt_iload_n hE wp_md_isSmall_d6 rfl ?_
    refine wt_bipush hE (122 : Int32) wp_md_isSmall_d7 wt_cb_122 ?_
    refine wt_icmp_gt hE 16 wp_md_isSmall_d9 rfl (fun c2 => ?_) (fun c2 => ?_)
    · have h := wt_ip c2 h
      refine wt_iconst hE (0 : Int32) wp_md_isSmall_d16 wt_ci_0 ?_
      cases h
      exact wt_zret hE (by decide) hR wp_md_isSmall_d17
    · have h := wt_in c2 h
      refine wt_iconst hE (1 : Int32) wp_md_isSmall_d12 wt_ci_1 ?_
      refine wt_goto hE 17 wp_md_isSmall_d13 rfl ?_
      cases h
      exact wt_zret hE (by decide) hR wp_md_isSmall_d17
def wb15m5_prog_13_method_12_code_r1 : List (List Nat) := [27, 172] :: []
def wb15m5_prog_13_method_12_code_r0 : List (List Nat) := [42, 182, 0, 173, 3, 60, 42, 42, 180, 0, 160, 27, 96, 182, 0, 163, 184, 0, 189, 153, 0, 9, 132, 1, 1, 167, 255, 237] :: wb15m5_prog_13_method_12_code_r1
set_option maxRecDepth 100000 in
theorem wb15m5_prog_13_method_12_code_c0 : wt_cs prog_13_method_12_code 0 wb15m5_prog_13_method_12_code_r0 := wt_cs_of (by decide +kernel)
theorem wb15m5_prog_13_method_12_code_c1 : wt_cs prog_13_method_12_code 28 wb15m5_prog_13_method_12_code_r1 := wt_cs_tl (m := 28) wb15m5_prog_13_method_12_code_c0 rfl rfl
theorem wp_md_lettersHere_d0 : decode prog_13_method_12_code 0 = .ok (.aload_n 0, 1) := wt_op42 wb15m5_prog_13_method_12_code_c0 0 rfl rfl
theorem wp_md_lettersHere_d1 : decode prog_13_method_12_code 1 = .ok (.invokevirtual 173, 3) := wt_op182 wb15m5_prog_13_method_12_code_c0 1 rfl rfl rfl
theorem wp_md_lettersHere_d4 : decode prog_13_method_12_code 4 = .ok (.iconst 0, 1) := wt_op3 wb15m5_prog_13_method_12_code_c0 4 rfl rfl
theorem wp_md_lettersHere_d5 : decode prog_13_method_12_code 5 = .ok (.istore_n 1, 1) := wt_op60 wb15m5_prog_13_method_12_code_c0 5 rfl rfl
theorem wp_md_lettersHere_d6 : decode prog_13_method_12_code 6 = .ok (.aload_n 0, 1) := wt_op42 wb15m5_prog_13_method_12_code_c0 6 rfl rfl
theorem wp_md_lettersHere_d7 : decode prog_13_method_12_code 7 = .ok (.aload_n 0, 1) := wt_op42 wb15m5_prog_13_method_12_code_c0 7 rfl rfl
theorem wp_md_lettersHere_d8 : decode prog_13_method_12_code 8 = .ok (.getfield 160, 3) := wt_op180 wb15m5_prog_13_method_12_code_c0 8 rfl rfl rfl
theorem wp_md_lettersHere_d11 : decode prog_13_method_12_code 11 = .ok (.iload_n 1, 1) := wt_op27 wb15m5_prog_13_method_12_code_c0 11 rfl rfl
theorem wp_md_lettersHere_d12 : decode prog_13_method_12_code 12 = .ok (.iadd, 1) := wt_op96 wb15m5_prog_13_method_12_code_c0 12 rfl rfl
theorem wp_md_lettersHere_d13 : decode prog_13_method_12_code 13 = .ok (.invokevirtual 163, 3) := wt_op182 wb15m5_prog_13_method_12_code_c0 13 rfl rfl rfl
theorem wp_md_lettersHere_d16 : decode prog_13_method_12_code 16 = .ok (.invokestatic 189, 3) := wt_op184 wb15m5_prog_13_method_12_code_c0 16 rfl rfl rfl
theorem wp_md_lettersHere_d19 : decode prog_13_method_12_code 19 = .ok (.ifCond .eq 9, 3) := wt_op153 wb15m5_prog_13_method_12_code_c0 19 rfl rfl rfl
theorem wp_md_lettersHere_d22 : decode prog_13_method_12_code 22 = .ok (.iinc 1 1, 3) := wt_op132 wb15m5_prog_13_method_12_code_c0 22 rfl rfl rfl
theorem wp_md_lettersHere_d25 : decode prog_13_method_12_code 25 = .ok (.goto (-19), 3) := wt_op167 wb15m5_prog_13_method_12_code_c0 25 rfl rfl rfl
theorem wp_md_lettersHere_d28 : decode prog_13_method_12_code 28 = .ok (.iload_n 1, 1) := wt_op27 wb15m5_prog_13_method_12_code_c1 0 rfl rfl
theorem wp_md_lettersHere_d29 : decode prog_13_method_12_code 29 = .ok (.ireturn, 1) := wt_op172 wb15m5_prog_13_method_12_code_c1 1 rfl rfl
noncomputable def wp_md_lettersHere_B6 (n : Nat) (K6 : Int32 × wt_St → Option (Int32 × wt_St)) (s : Int32 × wt_St) : Option (Int32 × wt_St) :=
  (wp_md_byteAt n ((wt_gf s.2 108 4) + s.1) s.2).bind fun q2 =>
  (wp_md_isSmall n q2.1 q2.2).bind fun q3 =>
  if q3.1 = 0 then
    some (s.1, q3.2)
  else
    K6 ((s.1 + (1 : Int32)), q3.2)
set_option maxRecDepth 100000 in
set_option maxHeartbeats 4000000 in
theorem wp_md_lettersHere_B6_ok  {X : wt_X} {n : Nat} {res : Int32 × wt_St} (hE : wt_Ok X prog_13_method_12_code 2 "WornTypeModel" 2 0) (hR : wt_Rt X (some .int) (some res.1) res.2) (hD : ∀ i, 108 ≤ i → i < 321 → wt_dom (wt_xw X) i)  {K6 : Int32 × wt_St → Option (Int32 × wt_St)} (hK6 : ∀ s : Int32 × wt_St, K6 s = some res → wt_V X 0 s.2 6 [some (.ref (wt_ad (wt_xw X) 108)), some (.int s.1)] []) {s : Int32 × wt_St} (h : wp_md_lettersHere_B6 n K6 s = some res) : wt_V X 0 s.2 6 [some (.ref (wt_ad (wt_xw X) 108)), some (.int s.1)] [] := by
  unfold wp_md_lettersHere_B6 at h
  refine wt_aload_n hE wp_md_lettersHere_d6 rfl ?_
  refine wt_aload_n hE wp_md_lettersHere_d7 rfl ?_
  refine wt_geti hE wt_lf_md_160 (hD 108 (by decide) (by decide)) wt_L108 rfl wp_md_lettersHere_d8 ?_
  refine wt_iload_n hE wp_md_lettersHere_d11 rfl ?_
  refine wt_iadd hE wp_md_lettersHere_d12 ?_
  obtain ⟨q2, hq2, h⟩ := wt_bi h
  refine wt_callVi hE [.int ((wt_gf s.2 108 4) + s.1)] wt_lm_md_163 wt_ya_md_byteAt (wp_md_byteAt_ok hD hq2) (by omega) (hD 108 (by decide) (by decide)) wt_L108 rfl rfl rfl (Nat.le_of_ble_eq_true rfl) (Nat.zero_le _) wp_md_lettersHere_d13 (fun hbq2 => ?_)
  obtain ⟨q3, hq3, h⟩ := wt_bi h
  refine wt_callSi hE [.int q2.1] wt_lm_md_189 wt_ya_md_isSmall (wp_md_isSmall_ok hq3) (by omega) rfl rfl (Nat.le_of_ble_eq_true rfl) (Nat.zero_le _) wp_md_lettersHere_d16 (fun hbq3 => ?_)
  refine wt_if_eq hE 28 wp_md_lettersHere_d19 rfl (fun c4 => ?_) (fun c4 => ?_)
  · have h := wt_ip c4 h
    refine wt_iload_n hE wp_md_lettersHere_d28 rfl ?_
    cases h
    exact wt_iret hE hR wp_md_lettersHere_d29
  · have h := wt_in c4 h
    refine wt_iinc hE (s.1 + (1 : Int32)) [some (.ref (wt_ad (wt_xw X) 108)), some (.int (s.1 + (1 : Int32)))] wp_md_lettersHere_d22 (by decide) rfl rfl rfl ?_
    refine wt_goto hE 6 wp_md_lettersHere_d25 rfl ?_
    exact hK6 ((s.1 + (1 : Int32)), q3.2) h
noncomputable def wp_md_lettersHere (n : Nat) (σ : wt_St) : Option (Int32 × wt_St) :=
  (wp_md_blanks n σ).bind fun q1 =>
  wt_it (wp_md_lettersHere_B6 n) n ((0 : Int32), q1)
set_option maxRecDepth 100000 in
set_option maxHeartbeats 4000000 in
theorem wp_md_lettersHere_ok {l : Launch} {w : wt_E} {n : Nat} (hD : ∀ i, 108 ≤ i → i < 321 → wt_dom w i) {σ : wt_St} {q : Int32 × wt_St} (h : wp_md_lettersHere n σ = some q) : wt_Ctr l w wt_y_md_lettersHere prog_13_method_12_code 2 (some .int) 2 [.ref (wt_ad w 108)] σ (some q.1) q.2 := by
  refine wt_ctr wt_pl_md_lettersHere rfl (Nat.le_of_ble_eq_true rfl) [some (.ref (wt_ad w 108)), none] rfl ?_
  intro X hXl hXw hE hR
  subst hXl
  subst hXw
  have hE : wt_Ok X prog_13_method_12_code 2 "WornTypeModel" 2 0 := hE
  unfold wp_md_lettersHere at h
  refine wt_aload_n hE wp_md_lettersHere_d0 rfl ?_
  obtain ⟨q1, hq1, h⟩ := wt_bi h
  refine wt_callVv hE [] wt_lm_md_173 wt_ya_md_blanks (wp_md_blanks_ok hD hq1) (by omega) (hD 108 (by decide) (by decide)) wt_L108 rfl rfl rfl (Nat.le_of_ble_eq_true rfl) (Nat.zero_le _) wp_md_lettersHere_d1 ?_
  refine wt_iconst hE (0 : Int32) wp_md_lettersHere_d4 wt_ci_0 ?_
  refine wt_istore_n hE [some (.ref (wt_ad (wt_xw X) 108)), some (.int (0 : Int32))] wp_md_lettersHere_d5 (by decide) rfl ?_
  exact wt_it_ind (fun z => wt_V X 0 z.2 6 [some (.ref (wt_ad (wt_xw X) 108)), some (.int z.1)] []) (fun K hK z h => wp_md_lettersHere_B6_ok hE hR hD hK h) n ((0 : Int32), q1) h
def wb15m5_prog_13_method_14_code_r2 : List (List Nat) := [28, 16, 7, 162, 0, 12, 29, 27, 160, 0, 7, 4, 167, 0, 4, 3, 172] :: []
def wb15m5_prog_13_method_14_code_r1 : List (List Nat) := [42, 180, 0, 160, 21, 4, 96, 182, 0, 163, 96, 16, 97, 100, 4, 96, 62, 132, 4, 1, 167, 255, 218, 42, 180, 0, 167, 154, 0, 18] :: wb15m5_prog_13_method_14_code_r2
def wb15m5_prog_13_method_14_code_r0 : List (List Nat) := [42, 182, 0, 192, 61, 3, 62, 3, 54, 4, 21, 4, 28, 162, 0, 38, 21, 4, 16, 7, 162, 0, 31, 16, 27, 29, 104, 42] :: wb15m5_prog_13_method_14_code_r1
set_option maxRecDepth 100000 in
theorem wb15m5_prog_13_method_14_code_c0 : wt_cs prog_13_method_14_code 0 wb15m5_prog_13_method_14_code_r0 := wt_cs_of (by decide +kernel)
theorem wb15m5_prog_13_method_14_code_c1 : wt_cs prog_13_method_14_code 28 wb15m5_prog_13_method_14_code_r1 := wt_cs_tl (m := 28) wb15m5_prog_13_method_14_code_c0 rfl rfl
theorem wb15m5_prog_13_method_14_code_c2 : wt_cs prog_13_method_14_code 58 wb15m5_prog_13_method_14_code_r2 := wt_cs_tl (m := 30) wb15m5_prog_13_method_14_code_c1 rfl rfl
theorem wp_md_isWord_d0 : decode prog_13_method_14_code 0 = .ok (.aload_n 0, 1) := wt_op42 wb15m5_prog_13_method_14_code_c0 0 rfl rfl
theorem wp_md_isWord_d1 : decode prog_13_method_14_code 1 = .ok (.invokevirtual 192, 3) := wt_op182 wb15m5_prog_13_method_14_code_c0 1 rfl rfl rfl
theorem wp_md_isWord_d4 : decode prog_13_method_14_code 4 = .ok (.istore_n 2, 1) := wt_op61 wb15m5_prog_13_method_14_code_c0 4 rfl rfl
theorem wp_md_isWord_d5 : decode prog_13_method_14_code 5 = .ok (.iconst 0, 1) := wt_op3 wb15m5_prog_13_method_14_code_c0 5 rfl rfl
theorem wp_md_isWord_d6 : decode prog_13_method_14_code 6 = .ok (.istore_n 3, 1) := wt_op62 wb15m5_prog_13_method_14_code_c0 6 rfl rfl
theorem wp_md_isWord_d7 : decode prog_13_method_14_code 7 = .ok (.iconst 0, 1) := wt_op3 wb15m5_prog_13_method_14_code_c0 7 rfl rfl
theorem wp_md_isWord_d8 : decode prog_13_method_14_code 8 = .ok (.istore 4, 2) := wt_op54 wb15m5_prog_13_method_14_code_c0 8 rfl rfl
theorem wp_md_isWord_d10 : decode prog_13_method_14_code 10 = .ok (.iload 4, 2) := wt_op21 wb15m5_prog_13_method_14_code_c0 10 rfl rfl
theorem wp_md_isWord_d12 : decode prog_13_method_14_code 12 = .ok (.iload_n 2, 1) := wt_op28 wb15m5_prog_13_method_14_code_c0 12 rfl rfl
theorem wp_md_isWord_d13 : decode prog_13_method_14_code 13 = .ok (.if_icmp .ge 38, 3) := wt_op162 wb15m5_prog_13_method_14_code_c0 13 rfl rfl rfl
theorem wp_md_isWord_d16 : decode prog_13_method_14_code 16 = .ok (.iload 4, 2) := wt_op21 wb15m5_prog_13_method_14_code_c0 16 rfl rfl
theorem wp_md_isWord_d18 : decode prog_13_method_14_code 18 = .ok (.bipush 7, 2) := wt_op16 wb15m5_prog_13_method_14_code_c0 18 rfl rfl rfl
theorem wp_md_isWord_d20 : decode prog_13_method_14_code 20 = .ok (.if_icmp .ge 31, 3) := wt_op162 wb15m5_prog_13_method_14_code_c0 20 rfl rfl rfl
theorem wp_md_isWord_d23 : decode prog_13_method_14_code 23 = .ok (.bipush 27, 2) := wt_op16 wb15m5_prog_13_method_14_code_c0 23 rfl rfl rfl
theorem wp_md_isWord_d25 : decode prog_13_method_14_code 25 = .ok (.iload_n 3, 1) := wt_op29 wb15m5_prog_13_method_14_code_c0 25 rfl rfl
theorem wp_md_isWord_d26 : decode prog_13_method_14_code 26 = .ok (.imul, 1) := wt_op104 wb15m5_prog_13_method_14_code_c0 26 rfl rfl
theorem wp_md_isWord_d27 : decode prog_13_method_14_code 27 = .ok (.aload_n 0, 1) := wt_op42 wb15m5_prog_13_method_14_code_c0 27 rfl rfl
theorem wp_md_isWord_d28 : decode prog_13_method_14_code 28 = .ok (.aload_n 0, 1) := wt_op42 wb15m5_prog_13_method_14_code_c1 0 rfl rfl
theorem wp_md_isWord_d29 : decode prog_13_method_14_code 29 = .ok (.getfield 160, 3) := wt_op180 wb15m5_prog_13_method_14_code_c1 1 rfl rfl rfl
theorem wp_md_isWord_d32 : decode prog_13_method_14_code 32 = .ok (.iload 4, 2) := wt_op21 wb15m5_prog_13_method_14_code_c1 4 rfl rfl
theorem wp_md_isWord_d34 : decode prog_13_method_14_code 34 = .ok (.iadd, 1) := wt_op96 wb15m5_prog_13_method_14_code_c1 6 rfl rfl
theorem wp_md_isWord_d35 : decode prog_13_method_14_code 35 = .ok (.invokevirtual 163, 3) := wt_op182 wb15m5_prog_13_method_14_code_c1 7 rfl rfl rfl
theorem wp_md_isWord_d38 : decode prog_13_method_14_code 38 = .ok (.iadd, 1) := wt_op96 wb15m5_prog_13_method_14_code_c1 10 rfl rfl
theorem wp_md_isWord_d39 : decode prog_13_method_14_code 39 = .ok (.bipush 97, 2) := wt_op16 wb15m5_prog_13_method_14_code_c1 11 rfl rfl rfl
theorem wp_md_isWord_d41 : decode prog_13_method_14_code 41 = .ok (.isub, 1) := wt_op100 wb15m5_prog_13_method_14_code_c1 13 rfl rfl
theorem wp_md_isWord_d42 : decode prog_13_method_14_code 42 = .ok (.iconst 1, 1) := wt_op4 wb15m5_prog_13_method_14_code_c1 14 rfl rfl
theorem wp_md_isWord_d43 : decode prog_13_method_14_code 43 = .ok (.iadd, 1) := wt_op96 wb15m5_prog_13_method_14_code_c1 15 rfl rfl
theorem wp_md_isWord_d44 : decode prog_13_method_14_code 44 = .ok (.istore_n 3, 1) := wt_op62 wb15m5_prog_13_method_14_code_c1 16 rfl rfl
theorem wp_md_isWord_d45 : decode prog_13_method_14_code 45 = .ok (.iinc 4 1, 3) := wt_op132 wb15m5_prog_13_method_14_code_c1 17 rfl rfl rfl
theorem wp_md_isWord_d48 : decode prog_13_method_14_code 48 = .ok (.goto (-38), 3) := wt_op167 wb15m5_prog_13_method_14_code_c1 20 rfl rfl rfl
theorem wp_md_isWord_d51 : decode prog_13_method_14_code 51 = .ok (.aload_n 0, 1) := wt_op42 wb15m5_prog_13_method_14_code_c1 23 rfl rfl
theorem wp_md_isWord_d52 : decode prog_13_method_14_code 52 = .ok (.getfield 167, 3) := wt_op180 wb15m5_prog_13_method_14_code_c1 24 rfl rfl rfl
theorem wp_md_isWord_d55 : decode prog_13_method_14_code 55 = .ok (.ifCond .ne 18, 3) := wt_op154 wb15m5_prog_13_method_14_code_c1 27 rfl rfl rfl
theorem wp_md_isWord_d58 : decode prog_13_method_14_code 58 = .ok (.iload_n 2, 1) := wt_op28 wb15m5_prog_13_method_14_code_c2 0 rfl rfl
theorem wp_md_isWord_d59 : decode prog_13_method_14_code 59 = .ok (.bipush 7, 2) := wt_op16 wb15m5_prog_13_method_14_code_c2 1 rfl rfl rfl
theorem wp_md_isWord_d61 : decode prog_13_method_14_code 61 = .ok (.if_icmp .ge 12, 3) := wt_op162 wb15m5_prog_13_method_14_code_c2 3 rfl rfl rfl
theorem wp_md_isWord_d64 : decode prog_13_method_14_code 64 = .ok (.iload_n 3, 1) := wt_op29 wb15m5_prog_13_method_14_code_c2 6 rfl rfl
theorem wp_md_isWord_d65 : decode prog_13_method_14_code 65 = .ok (.iload_n 1, 1) := wt_op27 wb15m5_prog_13_method_14_code_c2 7 rfl rfl
theorem wp_md_isWord_d66 : decode prog_13_method_14_code 66 = .ok (.if_icmp .ne 7, 3) := wt_op160 wb15m5_prog_13_method_14_code_c2 8 rfl rfl rfl
theorem wp_md_isWord_d69 : decode prog_13_method_14_code 69 = .ok (.iconst 1, 1) := wt_op4 wb15m5_prog_13_method_14_code_c2 11 rfl rfl
theorem wp_md_isWord_d70 : decode prog_13_method_14_code 70 = .ok (.goto 4, 3) := wt_op167 wb15m5_prog_13_method_14_code_c2 12 rfl rfl rfl
theorem wp_md_isWord_d73 : decode prog_13_method_14_code 73 = .ok (.iconst 0, 1) := wt_op3 wb15m5_prog_13_method_14_code_c2 15 rfl rfl
theorem wp_md_isWord_d74 : decode prog_13_method_14_code 74 = .ok (.ireturn, 1) := wt_op172 wb15m5_prog_13_method_14_code_c2 16 rfl rfl
noncomputable def wp_md_isWord_B51 (n : Nat) (x1 : Int32) (x2 : Int32) (x3 : Int32) (σ : wt_St) : Option (Int32 × wt_St) :=
  if (wt_gf σ 108 5) = 0 then
    if (7 : Int32) ≤ x2 then
      some ((0 : Int32), σ)
    else
      if x3 = x1 then
        some ((1 : Int32), σ)
      else
        some ((0 : Int32), σ)
  else
    some ((0 : Int32), σ)
set_option maxRecDepth 100000 in
set_option maxHeartbeats 4000000 in
theorem wp_md_isWord_B51_ok  {x1 : Int32} {x2 : Int32} {x3 : Int32} {X : wt_X} {n : Nat} {res : Int32 × wt_St} (hE : wt_Ok X prog_13_method_14_code 5 "WornTypeModel" 3 0) (hR : wt_Rt X (some .boolean) (some res.1) res.2) (hD : ∀ i, 108 ≤ i → i < 321 → wt_dom (wt_xw X) i)  {σ : wt_St} (h : wp_md_isWord_B51 n x1 x2 x3 σ = some res) : wt_V X 0 σ 51 [some (.ref (wt_ad (wt_xw X) 108)), some (.int x1), some (.int x2), some (.int x3), none] [] := by
  unfold wp_md_isWord_B51 at h
  refine wt_aload_n hE wp_md_isWord_d51 rfl ?_
  refine wt_geti hE wt_lf_md_167 (hD 108 (by decide) (by decide)) wt_L108 rfl wp_md_isWord_d52 ?_
  refine wt_if_ne hE 73 wp_md_isWord_d55 rfl (fun c3 => ?_) (fun c3 => ?_)
  · have h := wt_in c3 h
    refine wt_iconst hE (0 : Int32) wp_md_isWord_d73 wt_ci_0 ?_
    cases h
    exact wt_zret hE (by decide) hR wp_md_isWord_d74
  · have h := wt_ip c3 h
    refine wt_iload_n hE wp_md_isWord_d58 rfl ?_
    refine wt_bipush hE (7 : Int32) wp_md_isWord_d59 wt_cb_7 ?_
    refine wt_icmp_ge hE 73 wp_md_isWord_d61 rfl (fun c4 => ?_) (fun c4 => ?_)
    · have h := wt_ip c4 h
      refine wt_iconst hE (0 : Int32) wp_md_isWord_d73 wt_ci_0 ?_
      cases h
      exact wt_zret hE (by decide) hR wp_md_isWord_d74
    · have h := wt_in c4 h
      refine wt_iload_n hE wp_md_isWord_d64 rfl ?_
      refine wt_iload_n hE wp_md_isWord_d65 rfl ?_
      refine wt_icmp_ne hE 73 wp_md_isWord_d66 rfl (fun c5 => ?_) (fun c5 => ?_)
      · have h := wt_in c5 h
        refine wt_iconst hE (0 : Int32) wp_md_isWord_d73 wt_ci_0 ?_
        cases h
        exact wt_zret hE (by decide) hR wp_md_isWord_d74
      · have h := wt_ip c5 h
        refine wt_iconst hE (1 : Int32) wp_md_isWord_d69 wt_ci_1 ?_
        refine wt_goto hE 74 wp_md_isWord_d70 rfl ?_
        cases h
        exact wt_zret hE (by decide) hR wp_md_isWord_d74
noncomputable def wp_md_isWord_B10 (n : Nat) (x1 : Int32) (x2 : Int32) (K10 : Int32 × Int32 × wt_St → Option (Int32 × wt_St)) (s : Int32 × Int32 × wt_St) : Option (Int32 × wt_St) :=
  if x2 ≤ s.2.1 then
    wp_md_isWord_B51 n x1 x2 s.1 s.2.2
  else
    if (7 : Int32) ≤ s.2.1 then
      wp_md_isWord_B51 n x1 x2 s.1 s.2.2
    else
      (wp_md_byteAt n ((wt_gf s.2.2 108 4) + s.2.1) s.2.2).bind fun q7 =>
      K10 ((((((27 : Int32) * s.1) + q7.1) - (97 : Int32)) + (1 : Int32)), (s.2.1 + (1 : Int32)), q7.2)
set_option maxRecDepth 100000 in
set_option maxHeartbeats 4000000 in
theorem wp_md_isWord_B10_ok  {x1 : Int32} {x2 : Int32} {X : wt_X} {n : Nat} {res : Int32 × wt_St} (hE : wt_Ok X prog_13_method_14_code 5 "WornTypeModel" 3 0) (hR : wt_Rt X (some .boolean) (some res.1) res.2) (hD : ∀ i, 108 ≤ i → i < 321 → wt_dom (wt_xw X) i)  {K10 : Int32 × Int32 × wt_St → Option (Int32 × wt_St)} (hK10 : ∀ s : Int32 × Int32 × wt_St, K10 s = some res → wt_V X 0 s.2.2 10 [some (.ref (wt_ad (wt_xw X) 108)), some (.int x1), some (.int x2), some (.int s.1), some (.int s.2.1)] []) {s : Int32 × Int32 × wt_St} (h : wp_md_isWord_B10 n x1 x2 K10 s = some res) : wt_V X 0 s.2.2 10 [some (.ref (wt_ad (wt_xw X) 108)), some (.int x1), some (.int x2), some (.int s.1), some (.int s.2.1)] [] := by
  unfold wp_md_isWord_B10 at h
  refine wt_iload hE wp_md_isWord_d10 rfl ?_
  refine wt_iload_n hE wp_md_isWord_d12 rfl ?_
  refine wt_icmp_ge hE 51 wp_md_isWord_d13 rfl (fun c2 => ?_) (fun c2 => ?_)
  · have h := wt_ip c2 h
    refine wt_wk [true, true, true, true, false] rfl ?_
    exact wp_md_isWord_B51_ok hE hR hD h
  · have h := wt_in c2 h
    refine wt_iload hE wp_md_isWord_d16 rfl ?_
    refine wt_bipush hE (7 : Int32) wp_md_isWord_d18 wt_cb_7 ?_
    refine wt_icmp_ge hE 51 wp_md_isWord_d20 rfl (fun c6 => ?_) (fun c6 => ?_)
    · have h := wt_ip c6 h
      refine wt_wk [true, true, true, true, false] rfl ?_
      exact wp_md_isWord_B51_ok hE hR hD h
    · have h := wt_in c6 h
      refine wt_bipush hE (27 : Int32) wp_md_isWord_d23 wt_cb_27 ?_
      refine wt_iload_n hE wp_md_isWord_d25 rfl ?_
      refine wt_imul hE wp_md_isWord_d26 ?_
      refine wt_aload_n hE wp_md_isWord_d27 rfl ?_
      refine wt_aload_n hE wp_md_isWord_d28 rfl ?_
      refine wt_geti hE wt_lf_md_160 (hD 108 (by decide) (by decide)) wt_L108 rfl wp_md_isWord_d29 ?_
      refine wt_iload hE wp_md_isWord_d32 rfl ?_
      refine wt_iadd hE wp_md_isWord_d34 ?_
      obtain ⟨q7, hq7, h⟩ := wt_bi h
      refine wt_callVi hE [.int ((wt_gf s.2.2 108 4) + s.2.1)] wt_lm_md_163 wt_ya_md_byteAt (wp_md_byteAt_ok hD hq7) (by omega) (hD 108 (by decide) (by decide)) wt_L108 rfl rfl rfl (Nat.le_of_ble_eq_true rfl) (Nat.zero_le _) wp_md_isWord_d35 (fun hbq7 => ?_)
      refine wt_iadd hE wp_md_isWord_d38 ?_
      refine wt_bipush hE (97 : Int32) wp_md_isWord_d39 wt_cb_97 ?_
      refine wt_isub hE wp_md_isWord_d41 ?_
      refine wt_iconst hE (1 : Int32) wp_md_isWord_d42 wt_ci_1 ?_
      refine wt_iadd hE wp_md_isWord_d43 ?_
      refine wt_istore_n hE [some (.ref (wt_ad (wt_xw X) 108)), some (.int x1), some (.int x2), some (.int (((((27 : Int32) * s.1) + q7.1) - (97 : Int32)) + (1 : Int32))), some (.int s.2.1)] wp_md_isWord_d44 (by decide) rfl ?_
      refine wt_iinc hE (s.2.1 + (1 : Int32)) [some (.ref (wt_ad (wt_xw X) 108)), some (.int x1), some (.int x2), some (.int (((((27 : Int32) * s.1) + q7.1) - (97 : Int32)) + (1 : Int32))), some (.int (s.2.1 + (1 : Int32)))] wp_md_isWord_d45 (by decide) rfl rfl rfl ?_
      refine wt_goto hE 10 wp_md_isWord_d48 rfl ?_
      exact hK10 ((((((27 : Int32) * s.1) + q7.1) - (97 : Int32)) + (1 : Int32)), (s.2.1 + (1 : Int32)), q7.2) h
noncomputable def wp_md_isWord (n : Nat) (x1 : Int32) (σ : wt_St) : Option (Int32 × wt_St) :=
  (wp_md_lettersHere n σ).bind fun q1 =>
  wt_it (wp_md_isWord_B10 n x1 q1.1) n ((0 : Int32), (0 : Int32), q1.2)
set_option maxRecDepth 100000 in
set_option maxHeartbeats 4000000 in
theorem wp_md_isWord_ok {l : Launch} {w : wt_E} {n : Nat} {x1 : Int32} (hD : ∀ i, 108 ≤ i → i < 321 → wt_dom w i) {σ : wt_St} {q : Int32 × wt_St} (h : wp_md_isWord n x1 σ = some q) : wt_Ctr l w wt_y_md_isWord prog_13_method_14_code 5 (some .boolean) 3 [.ref (wt_ad w 108), .int x1] σ (some q.1) q.2 := by
  refine wt_ctr wt_pl_md_isWord rfl (Nat.le_of_ble_eq_true rfl) [some (.ref (wt_ad w 108)), some (.int x1), none, none, none] rfl ?_
  intro X hXl hXw hE hR
  subst hXl
  subst hXw
  have hE : wt_Ok X prog_13_method_14_code 5 "WornTypeModel" 3 0 := hE
  unfold wp_md_isWord at h
  refine wt_aload_n hE wp_md_isWord_d0 rfl ?_
  obtain ⟨q1, hq1, h⟩ := wt_bi h
  refine wt_callVi hE [] wt_lm_md_192 wt_ya_md_lettersHere (wp_md_lettersHere_ok hD hq1) (by omega) (hD 108 (by decide) (by decide)) wt_L108 rfl rfl rfl (Nat.le_of_ble_eq_true rfl) (Nat.zero_le _) wp_md_isWord_d1 (fun hbq1 => ?_)
  refine wt_istore_n hE [some (.ref (wt_ad (wt_xw X) 108)), some (.int x1), some (.int q1.1), none, none] wp_md_isWord_d4 (by decide) rfl ?_
  refine wt_iconst hE (0 : Int32) wp_md_isWord_d5 wt_ci_0 ?_
  refine wt_istore_n hE [some (.ref (wt_ad (wt_xw X) 108)), some (.int x1), some (.int q1.1), some (.int (0 : Int32)), none] wp_md_isWord_d6 (by decide) rfl ?_
  refine wt_iconst hE (0 : Int32) wp_md_isWord_d7 wt_ci_0 ?_
  refine wt_istore hE [some (.ref (wt_ad (wt_xw X) 108)), some (.int x1), some (.int q1.1), some (.int (0 : Int32)), some (.int (0 : Int32))] wp_md_isWord_d8 (Nat.le_of_ble_eq_true rfl) rfl ?_
  exact wt_it_ind (fun z => wt_V X 0 z.2.2 10 [some (.ref (wt_ad (wt_xw X) 108)), some (.int x1), some (.int q1.1), some (.int z.1), some (.int z.2.1)] []) (fun K hK z h => wp_md_isWord_B10_ok hE hR hD hK h) n ((0 : Int32), (0 : Int32), q1.2) h
def wb15m5_prog_13_method_15_code_r2 : List (List Nat) := [180, 0, 160, 27, 96, 181, 0, 160, 42, 180, 0, 167, 154, 0, 7, 28, 167, 0, 4, 3, 172] :: []
def wb15m5_prog_13_method_15_code_r1 : List (List Nat) := [42, 4, 42, 180, 0, 160, 182, 0, 180, 167, 0, 17, 27, 4, 164, 0, 12, 42, 5, 42, 180, 0, 160, 182, 0, 180, 42, 89] :: wb15m5_prog_13_method_15_code_r2
def wb15m5_prog_13_method_15_code_r0 : List (List Nat) := [42, 180, 0, 167, 153, 0, 5, 3, 172, 42, 182, 0, 192, 60, 42, 42, 180, 0, 160, 182, 0, 163, 16, 97, 100, 61, 27, 154, 0, 15] :: wb15m5_prog_13_method_15_code_r1
set_option maxRecDepth 100000 in
theorem wb15m5_prog_13_method_15_code_c0 : wt_cs prog_13_method_15_code 0 wb15m5_prog_13_method_15_code_r0 := wt_cs_of (by decide +kernel)
theorem wb15m5_prog_13_method_15_code_c1 : wt_cs prog_13_method_15_code 30 wb15m5_prog_13_method_15_code_r1 := wt_cs_tl (m := 30) wb15m5_prog_13_method_15_code_c0 rfl rfl
theorem wb15m5_prog_13_method_15_code_c2 : wt_cs prog_13_method_15_code 58 wb15m5_prog_13_method_15_code_r2 := wt_cs_tl (m := 28) wb15m5_prog_13_method_15_code_c1 rfl rfl
theorem wp_md_letterHere_d0 : decode prog_13_method_15_code 0 = .ok (.aload_n 0, 1) := wt_op42 wb15m5_prog_13_method_15_code_c0 0 rfl rfl
theorem wp_md_letterHere_d1 : decode prog_13_method_15_code 1 = .ok (.getfield 167, 3) := wt_op180 wb15m5_prog_13_method_15_code_c0 1 rfl rfl rfl
theorem wp_md_letterHere_d4 : decode prog_13_method_15_code 4 = .ok (.ifCond .eq 5, 3) := wt_op153 wb15m5_prog_13_method_15_code_c0 4 rfl rfl rfl
theorem wp_md_letterHere_d7 : decode prog_13_method_15_code 7 = .ok (.iconst 0, 1) := wt_op3 wb15m5_prog_13_method_15_code_c0 7 rfl rfl
theorem wp_md_letterHere_d8 : decode prog_13_method_15_code 8 = .ok (.ireturn, 1) := wt_op172 wb15m5_prog_13_method_15_code_c0 8 rfl rfl
theorem wp_md_letterHere_d9 : decode prog_13_method_15_code 9 = .ok (.aload_n 0, 1) := wt_op42 wb15m5_prog_13_method_15_code_c0 9 rfl rfl
theorem wp_md_letterHere_d10 : decode prog_13_method_15_code 10 = .ok (.invokevirtual 192, 3) := wt_op182 wb15m5_prog_13_method_15_code_c0 10 rfl rfl rfl
theorem wp_md_letterHere_d13 : decode prog_13_method_15_code 13 = .ok (.istore_n 1, 1) := wt_op60 wb15m5_prog_13_method_15_code_c0 13 rfl rfl
theorem wp_md_letterHere_d14 : decode prog_13_method_15_code 14 = .ok (.aload_n 0, 1) := wt_op42 wb15m5_prog_13_method_15_code_c0 14 rfl rfl
theorem wp_md_letterHere_d15 : decode prog_13_method_15_code 15 = .ok (.aload_n 0, 1) := wt_op42 wb15m5_prog_13_method_15_code_c0 15 rfl rfl
theorem wp_md_letterHere_d16 : decode prog_13_method_15_code 16 = .ok (.getfield 160, 3) := wt_op180 wb15m5_prog_13_method_15_code_c0 16 rfl rfl rfl
theorem wp_md_letterHere_d19 : decode prog_13_method_15_code 19 = .ok (.invokevirtual 163, 3) := wt_op182 wb15m5_prog_13_method_15_code_c0 19 rfl rfl rfl
theorem wp_md_letterHere_d22 : decode prog_13_method_15_code 22 = .ok (.bipush 97, 2) := wt_op16 wb15m5_prog_13_method_15_code_c0 22 rfl rfl rfl
theorem wp_md_letterHere_d24 : decode prog_13_method_15_code 24 = .ok (.isub, 1) := wt_op100 wb15m5_prog_13_method_15_code_c0 24 rfl rfl
theorem wp_md_letterHere_d25 : decode prog_13_method_15_code 25 = .ok (.istore_n 2, 1) := wt_op61 wb15m5_prog_13_method_15_code_c0 25 rfl rfl
theorem wp_md_letterHere_d26 : decode prog_13_method_15_code 26 = .ok (.iload_n 1, 1) := wt_op27 wb15m5_prog_13_method_15_code_c0 26 rfl rfl
theorem wp_md_letterHere_d27 : decode prog_13_method_15_code 27 = .ok (.ifCond .ne 15, 3) := wt_op154 wb15m5_prog_13_method_15_code_c0 27 rfl rfl rfl
theorem wp_md_letterHere_d30 : decode prog_13_method_15_code 30 = .ok (.aload_n 0, 1) := wt_op42 wb15m5_prog_13_method_15_code_c1 0 rfl rfl
theorem wp_md_letterHere_d31 : decode prog_13_method_15_code 31 = .ok (.iconst 1, 1) := wt_op4 wb15m5_prog_13_method_15_code_c1 1 rfl rfl
theorem wp_md_letterHere_d32 : decode prog_13_method_15_code 32 = .ok (.aload_n 0, 1) := wt_op42 wb15m5_prog_13_method_15_code_c1 2 rfl rfl
theorem wp_md_letterHere_d33 : decode prog_13_method_15_code 33 = .ok (.getfield 160, 3) := wt_op180 wb15m5_prog_13_method_15_code_c1 3 rfl rfl rfl
theorem wp_md_letterHere_d36 : decode prog_13_method_15_code 36 = .ok (.invokevirtual 180, 3) := wt_op182 wb15m5_prog_13_method_15_code_c1 6 rfl rfl rfl
theorem wp_md_letterHere_d39 : decode prog_13_method_15_code 39 = .ok (.goto 17, 3) := wt_op167 wb15m5_prog_13_method_15_code_c1 9 rfl rfl rfl
theorem wp_md_letterHere_d42 : decode prog_13_method_15_code 42 = .ok (.iload_n 1, 1) := wt_op27 wb15m5_prog_13_method_15_code_c1 12 rfl rfl
theorem wp_md_letterHere_d43 : decode prog_13_method_15_code 43 = .ok (.iconst 1, 1) := wt_op4 wb15m5_prog_13_method_15_code_c1 13 rfl rfl
theorem wp_md_letterHere_d44 : decode prog_13_method_15_code 44 = .ok (.if_icmp .le 12, 3) := wt_op164 wb15m5_prog_13_method_15_code_c1 14 rfl rfl rfl
theorem wp_md_letterHere_d47 : decode prog_13_method_15_code 47 = .ok (.aload_n 0, 1) := wt_op42 wb15m5_prog_13_method_15_code_c1 17 rfl rfl
theorem wp_md_letterHere_d48 : decode prog_13_method_15_code 48 = .ok (.iconst 2, 1) := wt_op5 wb15m5_prog_13_method_15_code_c1 18 rfl rfl
theorem wp_md_letterHere_d49 : decode prog_13_method_15_code 49 = .ok (.aload_n 0, 1) := wt_op42 wb15m5_prog_13_method_15_code_c1 19 rfl rfl
theorem wp_md_letterHere_d50 : decode prog_13_method_15_code 50 = .ok (.getfield 160, 3) := wt_op180 wb15m5_prog_13_method_15_code_c1 20 rfl rfl rfl
theorem wp_md_letterHere_d53 : decode prog_13_method_15_code 53 = .ok (.invokevirtual 180, 3) := wt_op182 wb15m5_prog_13_method_15_code_c1 23 rfl rfl rfl
theorem wp_md_letterHere_d56 : decode prog_13_method_15_code 56 = .ok (.aload_n 0, 1) := wt_op42 wb15m5_prog_13_method_15_code_c1 26 rfl rfl
theorem wp_md_letterHere_d57 : decode prog_13_method_15_code 57 = .ok (.dup, 1) := wt_op89 wb15m5_prog_13_method_15_code_c1 27 rfl rfl
theorem wp_md_letterHere_d58 : decode prog_13_method_15_code 58 = .ok (.getfield 160, 3) := wt_op180 wb15m5_prog_13_method_15_code_c2 0 rfl rfl rfl
theorem wp_md_letterHere_d61 : decode prog_13_method_15_code 61 = .ok (.iload_n 1, 1) := wt_op27 wb15m5_prog_13_method_15_code_c2 3 rfl rfl
theorem wp_md_letterHere_d62 : decode prog_13_method_15_code 62 = .ok (.iadd, 1) := wt_op96 wb15m5_prog_13_method_15_code_c2 4 rfl rfl
theorem wp_md_letterHere_d63 : decode prog_13_method_15_code 63 = .ok (.putfield 160, 3) := wt_op181 wb15m5_prog_13_method_15_code_c2 5 rfl rfl rfl
theorem wp_md_letterHere_d66 : decode prog_13_method_15_code 66 = .ok (.aload_n 0, 1) := wt_op42 wb15m5_prog_13_method_15_code_c2 8 rfl rfl
theorem wp_md_letterHere_d67 : decode prog_13_method_15_code 67 = .ok (.getfield 167, 3) := wt_op180 wb15m5_prog_13_method_15_code_c2 9 rfl rfl rfl
theorem wp_md_letterHere_d70 : decode prog_13_method_15_code 70 = .ok (.ifCond .ne 7, 3) := wt_op154 wb15m5_prog_13_method_15_code_c2 12 rfl rfl rfl
theorem wp_md_letterHere_d73 : decode prog_13_method_15_code 73 = .ok (.iload_n 2, 1) := wt_op28 wb15m5_prog_13_method_15_code_c2 15 rfl rfl
theorem wp_md_letterHere_d74 : decode prog_13_method_15_code 74 = .ok (.goto 4, 3) := wt_op167 wb15m5_prog_13_method_15_code_c2 16 rfl rfl rfl
theorem wp_md_letterHere_d77 : decode prog_13_method_15_code 77 = .ok (.iconst 0, 1) := wt_op3 wb15m5_prog_13_method_15_code_c2 19 rfl rfl
theorem wp_md_letterHere_d78 : decode prog_13_method_15_code 78 = .ok (.ireturn, 1) := wt_op172 wb15m5_prog_13_method_15_code_c2 20 rfl rfl
noncomputable def wp_md_letterHere_B56 (n : Nat) (x1 : Int32) (x2 : Int32) (σ : wt_St) : Option (Int32 × wt_St) :=
  if (wt_gf (wt_sf σ 108 4 ((wt_gf σ 108 4) + x1)) 108 5) = 0 then
    some (x2, (wt_sf σ 108 4 ((wt_gf σ 108 4) + x1)))
  else
    some ((0 : Int32), (wt_sf σ 108 4 ((wt_gf σ 108 4) + x1)))
set_option maxRecDepth 100000 in
set_option maxHeartbeats 4000000 in
theorem wp_md_letterHere_B56_ok  {x1 : Int32} {x2 : Int32} {X : wt_X} {n : Nat} {res : Int32 × wt_St} (hE : wt_Ok X prog_13_method_15_code 3 "WornTypeModel" 3 0) (hR : wt_Rt X (some .int) (some res.1) res.2) (hD : ∀ i, 108 ≤ i → i < 321 → wt_dom (wt_xw X) i)  {σ : wt_St} (h : wp_md_letterHere_B56 n x1 x2 σ = some res) : wt_V X 0 σ 56 [some (.ref (wt_ad (wt_xw X) 108)), some (.int x1), some (.int x2)] [] := by
  unfold wp_md_letterHere_B56 at h
  refine wt_aload_n hE wp_md_letterHere_d56 rfl ?_
  refine wt_dup hE wp_md_letterHere_d57 rfl ?_
  refine wt_geti hE wt_lf_md_160 (hD 108 (by decide) (by decide)) wt_L108 rfl wp_md_letterHere_d58 ?_
  refine wt_iload_n hE wp_md_letterHere_d61 rfl ?_
  refine wt_iadd hE wp_md_letterHere_d62 ?_
  refine wt_puti hE wt_lf_md_160 (hD 108 (by decide) (by decide)) wt_L108 rfl (fun q hq => by cases hq; rfl) wp_md_letterHere_d63 ?_
  refine wt_aload_n hE wp_md_letterHere_d66 rfl ?_
  refine wt_geti hE wt_lf_md_167 (hD 108 (by decide) (by decide)) wt_L108 rfl wp_md_letterHere_d67 ?_
  refine wt_if_ne hE 77 wp_md_letterHere_d70 rfl (fun c6 => ?_) (fun c6 => ?_)
  · have h := wt_in c6 h
    refine wt_iconst hE (0 : Int32) wp_md_letterHere_d77 wt_ci_0 ?_
    cases h
    exact wt_iret hE hR wp_md_letterHere_d78
  · have h := wt_ip c6 h
    refine wt_iload_n hE wp_md_letterHere_d73 rfl ?_
    refine wt_goto hE 78 wp_md_letterHere_d74 rfl ?_
    cases h
    exact wt_iret hE hR wp_md_letterHere_d78
noncomputable def wp_md_letterHere (n : Nat) (σ : wt_St) : Option (Int32 × wt_St) :=
  if (wt_gf σ 108 5) = 0 then
    (wp_md_lettersHere n σ).bind fun q2 =>
    (wp_md_byteAt n (wt_gf q2.2 108 4) q2.2).bind fun q3 =>
    if q2.1 = 0 then
      (wp_md_wrong n (1 : Int32) (wt_gf q3.2 108 4) q3.2).bind fun q8 =>
      wp_md_letterHere_B56 n q2.1 (q3.1 - (97 : Int32)) q8
    else
      if q2.1 ≤ (1 : Int32) then
        wp_md_letterHere_B56 n q2.1 (q3.1 - (97 : Int32)) q3.2
      else
        (wp_md_wrong n (2 : Int32) (wt_gf q3.2 108 4) q3.2).bind fun q7 =>
        wp_md_letterHere_B56 n q2.1 (q3.1 - (97 : Int32)) q7
  else
    some ((0 : Int32), σ)
set_option maxRecDepth 100000 in
set_option maxHeartbeats 4000000 in
theorem wp_md_letterHere_ok {l : Launch} {w : wt_E} {n : Nat} (hD : ∀ i, 108 ≤ i → i < 321 → wt_dom w i) {σ : wt_St} {q : Int32 × wt_St} (h : wp_md_letterHere n σ = some q) : wt_Ctr l w wt_y_md_letterHere prog_13_method_15_code 3 (some .int) 3 [.ref (wt_ad w 108)] σ (some q.1) q.2 := by
  refine wt_ctr wt_pl_md_letterHere rfl (Nat.le_of_ble_eq_true rfl) [some (.ref (wt_ad w 108)), none, none] rfl ?_
  intro X hXl hXw hE hR
  subst hXl
  subst hXw
  have hE : wt_Ok X prog_13_method_15_code 3 "WornTypeModel" 3 0 := hE
  unfold wp_md_letterHere at h
  refine wt_aload_n hE wp_md_letterHere_d0 rfl ?_
  refine wt_geti hE wt_lf_md_167 (hD 108 (by decide) (by decide)) wt_L108 rfl wp_md_letterHere_d1 ?_
  refine wt_if_eq hE 9 wp_md_letterHere_d4 rfl (fun c1 => ?_) (fun c1 => ?_)
  · have h := wt_ip c1 h
    refine wt_aload_n hE wp_md_letterHere_d9 rfl ?_
    obtain ⟨q2, hq2, h⟩ := wt_bi h
    refine wt_callVi hE [] wt_lm_md_192 wt_ya_md_lettersHere (wp_md_lettersHere_ok hD hq2) (by omega) (hD 108 (by decide) (by decide)) wt_L108 rfl rfl rfl (Nat.le_of_ble_eq_true rfl) (Nat.zero_le _) wp_md_letterHere_d10 (fun hbq2 => ?_)
    refine wt_istore_n hE [some (.ref (wt_ad (wt_xw X) 108)), some (.int q2.1), none] wp_md_letterHere_d13 (by decide) rfl ?_
    refine wt_aload_n hE wp_md_letterHere_d14 rfl ?_
    refine wt_aload_n hE wp_md_letterHere_d15 rfl ?_
    refine wt_geti hE wt_lf_md_160 (hD 108 (by decide) (by decide)) wt_L108 rfl wp_md_letterHere_d16 ?_
    obtain ⟨q3, hq3, h⟩ := wt_bi h
    refine wt_callVi hE [.int (wt_gf q2.2 108 4)] wt_lm_md_163 wt_ya_md_byteAt (wp_md_byteAt_ok hD hq3) (by omega) (hD 108 (by decide) (by decide)) wt_L108 rfl rfl rfl (Nat.le_of_ble_eq_true rfl) (Nat.zero_le _) wp_md_letterHere_d19 (fun hbq3 => ?_)
    refine wt_bipush hE (97 : Int32) wp_md_letterHere_d22 wt_cb_97 ?_
    refine wt_isub hE wp_md_letterHere_d24 ?_
    refine wt_istore_n hE [some (.ref (wt_ad (wt_xw X) 108)), some (.int q2.1), some (.int (q3.1 - (97 : Int32)))] wp_md_letterHere_d25 (by decide) rfl ?_
    refine wt_iload_n hE wp_md_letterHere_d26 rfl ?_
    refine wt_if_ne hE 42 wp_md_letterHere_d27 rfl (fun c4 => ?_) (fun c4 => ?_)
    · have h := wt_in c4 h
      refine wt_iload_n hE wp_md_letterHere_d42 rfl ?_
      refine wt_iconst hE (1 : Int32) wp_md_letterHere_d43 wt_ci_1 ?_
      refine wt_icmp_le hE 56 wp_md_letterHere_d44 rfl (fun c5 => ?_) (fun c5 => ?_)
      · have h := wt_ip c5 h
        exact wp_md_letterHere_B56_ok hE hR hD h
      · have h := wt_in c5 h
        refine wt_aload_n hE wp_md_letterHere_d47 rfl ?_
        refine wt_iconst hE (2 : Int32) wp_md_letterHere_d48 wt_ci_2 ?_
        refine wt_aload_n hE wp_md_letterHere_d49 rfl ?_
        refine wt_geti hE wt_lf_md_160 (hD 108 (by decide) (by decide)) wt_L108 rfl wp_md_letterHere_d50 ?_
        obtain ⟨q7, hq7, h⟩ := wt_bi h
        refine wt_callVv hE [.int (2 : Int32), .int (wt_gf q3.2 108 4)] wt_lm_md_180 wt_ya_md_wrong (wp_md_wrong_ok hD hq7) (by omega) (hD 108 (by decide) (by decide)) wt_L108 rfl rfl rfl (Nat.le_of_ble_eq_true rfl) (Nat.zero_le _) wp_md_letterHere_d53 ?_
        exact wp_md_letterHere_B56_ok hE hR hD h
    · have h := wt_ip c4 h
      refine wt_aload_n hE wp_md_letterHere_d30 rfl ?_
      refine wt_iconst hE (1 : Int32) wp_md_letterHere_d31 wt_ci_1 ?_
      refine wt_aload_n hE wp_md_letterHere_d32 rfl ?_
      refine wt_geti hE wt_lf_md_160 (hD 108 (by decide) (by decide)) wt_L108 rfl wp_md_letterHere_d33 ?_
      obtain ⟨q8, hq8, h⟩ := wt_bi h
      refine wt_callVv hE [.int (1 : Int32), .int (wt_gf q3.2 108 4)] wt_lm_md_180 wt_ya_md_wrong (wp_md_wrong_ok hD hq8) (by omega) (hD 108 (by decide) (by decide)) wt_L108 rfl rfl rfl (Nat.le_of_ble_eq_true rfl) (Nat.zero_le _) wp_md_letterHere_d36 ?_
      refine wt_goto hE 56 wp_md_letterHere_d39 rfl ?_
      exact wp_md_letterHere_B56_ok hE hR hD h
  · have h := wt_in c1 h
    refine wt_iconst hE (0 : Int32) wp_md_letterHere_d7 wt_ci_0 ?_
    cases h
    exact wt_iret hE hR wp_md_letterHere_d8
def wb15m5_prog_13_method_9_code_r0 : List (List Nat) := [26, 16, 48, 161, 0, 13, 26, 16, 57, 163, 0, 7, 4, 167, 0, 4, 3, 172] :: []
set_option maxRecDepth 100000 in
theorem wb15m5_prog_13_method_9_code_c0 : wt_cs prog_13_method_9_code 0 wb15m5_prog_13_method_9_code_r0 := wt_cs_of (by decide +kernel)
theorem wp_md_isDigit_d0 : decode prog_13_method_9_code 0 = .ok (.iload_n 0, 1) := wt_op26 wb15m5_prog_13_method_9_code_c0 0 rfl rfl
theorem wp_md_isDigit_d1 : decode prog_13_method_9_code 1 = .ok (.bipush 48, 2) := wt_op16 wb15m5_prog_13_method_9_code_c0 1 rfl rfl rfl
theorem wp_md_isDigit_d3 : decode prog_13_method_9_code 3 = .ok (.if_icmp .lt 13, 3) := wt_op161 wb15m5_prog_13_method_9_code_c0 3 rfl rfl rfl
theorem wp_md_isDigit_d6 : decode prog_13_method_9_code 6 = .ok (.iload_n 0, 1) := wt_op26 wb15m5_prog_13_method_9_code_c0 6 rfl rfl
theorem wp_md_isDigit_d7 : decode prog_13_method_9_code 7 = .ok (.bipush 57, 2) := wt_op16 wb15m5_prog_13_method_9_code_c0 7 rfl rfl rfl
theorem wp_md_isDigit_d9 : decode prog_13_method_9_code 9 = .ok (.if_icmp .gt 7, 3) := wt_op163 wb15m5_prog_13_method_9_code_c0 9 rfl rfl rfl
theorem wp_md_isDigit_d12 : decode prog_13_method_9_code 12 = .ok (.iconst 1, 1) := wt_op4 wb15m5_prog_13_method_9_code_c0 12 rfl rfl
theorem wp_md_isDigit_d13 : decode prog_13_method_9_code 13 = .ok (.goto 4, 3) := wt_op167 wb15m5_prog_13_method_9_code_c0 13 rfl rfl rfl
theorem wp_md_isDigit_d16 : decode prog_13_method_9_code 16 = .ok (.iconst 0, 1) := wt_op3 wb15m5_prog_13_method_9_code_c0 16 rfl rfl
theorem wp_md_isDigit_d17 : decode prog_13_method_9_code 17 = .ok (.ireturn, 1) := wt_op172 wb15m5_prog_13_method_9_code_c0 17 rfl rfl
noncomputable def wp_md_isDigit (n : Nat) (x0 : Int32) (σ : wt_St) : Option (Int32 × wt_St) :=
  if x0 < (48 : Int32) then
    some ((0 : Int32), σ)
  else
    if (57 : Int32) < x0 then
      some ((0 : Int32), σ)
    else
      some ((1 : Int32), σ)
set_option maxRecDepth 100000 in
set_option maxHeartbeats 4000000 in
theorem wp_md_isDigit_ok {l : Launch} {w : wt_E} {n : Nat} {x0 : Int32} {σ : wt_St} {q : Int32 × wt_St} (h : wp_md_isDigit n x0 σ = some q) : wt_Ctr l w wt_y_md_isDigit prog_13_method_9_code 1 (some .boolean) 0 [.int x0] σ (some q.1) q.2 := by
  refine wt_ctr wt_pl_md_isDigit rfl (Nat.le_of_ble_eq_true rfl) [some (.int x0)] rfl ?_
  intro X hXl hXw hE hR
  subst hXl
  subst hXw
  have hE : wt_Ok X prog_13_method_9_code 1 "WornTypeModel" 0 0 := hE
  unfold wp_md_isDigit at h
  refine wt_iload_n hE wp_md_isDigit_d0 rfl ?_
  refine wt_bipush hE (48 : Int32) wp_md_isDigit_d1 wt_cb_48 ?_
  refine wt_icmp_lt hE 16 wp_md_isDigit_d3 rfl (fun c1 => ?_) (fun c1 => ?_)
  · have h := wt_ip c1 h
    refine wt_iconst hE (0 : Int32) wp_md_isDigit_d16 wt_ci_0 ?_
    cases h
    exact wt_zret hE (by decide) hR wp_md_isDigit_d17
  · have h := wt_in c1 h
    refine wt_iload_n hE wp_md_isDigit_d6 rfl ?_
    refine wt_bipush hE (57 : Int32) wp_md_isDigit_d7 wt_cb_57 ?_
    refine wt_icmp_gt hE 16 wp_md_isDigit_d9 rfl (fun c2 => ?_) (fun c2 => ?_)
    · have h := wt_ip c2 h
      refine wt_iconst hE (0 : Int32) wp_md_isDigit_d16 wt_ci_0 ?_
      cases h
      exact wt_zret hE (by decide) hR wp_md_isDigit_d17
    · have h := wt_in c2 h
      refine wt_iconst hE (1 : Int32) wp_md_isDigit_d12 wt_ci_1 ?_
      refine wt_goto hE 17 wp_md_isDigit_d13 rfl ?_
      cases h
      exact wt_zret hE (by decide) hR wp_md_isDigit_d17
def wb15m5_prog_13_method_11_code_r4 : List (List Nat) := [42, 5, 29, 182, 0, 180, 42, 180, 0, 167, 154, 0, 8, 21, 4, 167, 0, 4, 3, 172] :: []
def wb15m5_prog_13_method_11_code_r3 : List (List Nat) := [167, 0, 5, 21, 4, 54, 4, 42, 89, 180, 0, 160, 4, 96, 181, 0, 160, 167, 255, 197, 21, 4, 27, 28, 184, 0, 185, 154, 0, 9] :: wb15m5_prog_13_method_11_code_r4
def wb15m5_prog_13_method_11_code_r2 : List (List Nat) := [16, 10, 21, 4, 104, 42, 42, 180, 0, 160, 182, 0, 163, 96, 16, 48, 100, 54, 4, 21, 4, 18, 184, 164, 0, 8, 18, 184] :: wb15m5_prog_13_method_11_code_r3
def wb15m5_prog_13_method_11_code_r1 : List (List Nat) := [184, 0, 176, 154, 0, 12, 42, 4, 42, 180, 0, 160, 182, 0, 180, 42, 42, 180, 0, 160, 182, 0, 163, 184, 0, 176, 153, 0, 51] :: wb15m5_prog_13_method_11_code_r2
def wb15m5_prog_13_method_11_code_r0 : List (List Nat) := [42, 180, 0, 167, 153, 0, 5, 3, 172, 42, 182, 0, 173, 42, 180, 0, 160, 62, 3, 54, 4, 42, 42, 180, 0, 160, 182, 0, 163] :: wb15m5_prog_13_method_11_code_r1
set_option maxRecDepth 100000 in
theorem wb15m5_prog_13_method_11_code_c0 : wt_cs prog_13_method_11_code 0 wb15m5_prog_13_method_11_code_r0 := wt_cs_of (by decide +kernel)
theorem wb15m5_prog_13_method_11_code_c1 : wt_cs prog_13_method_11_code 29 wb15m5_prog_13_method_11_code_r1 := wt_cs_tl (m := 29) wb15m5_prog_13_method_11_code_c0 rfl rfl
theorem wb15m5_prog_13_method_11_code_c2 : wt_cs prog_13_method_11_code 58 wb15m5_prog_13_method_11_code_r2 := wt_cs_tl (m := 29) wb15m5_prog_13_method_11_code_c1 rfl rfl
theorem wb15m5_prog_13_method_11_code_c3 : wt_cs prog_13_method_11_code 86 wb15m5_prog_13_method_11_code_r3 := wt_cs_tl (m := 28) wb15m5_prog_13_method_11_code_c2 rfl rfl
theorem wb15m5_prog_13_method_11_code_c4 : wt_cs prog_13_method_11_code 116 wb15m5_prog_13_method_11_code_r4 := wt_cs_tl (m := 30) wb15m5_prog_13_method_11_code_c3 rfl rfl
theorem wp_md_number_d0 : decode prog_13_method_11_code 0 = .ok (.aload_n 0, 1) := wt_op42 wb15m5_prog_13_method_11_code_c0 0 rfl rfl
theorem wp_md_number_d1 : decode prog_13_method_11_code 1 = .ok (.getfield 167, 3) := wt_op180 wb15m5_prog_13_method_11_code_c0 1 rfl rfl rfl
theorem wp_md_number_d4 : decode prog_13_method_11_code 4 = .ok (.ifCond .eq 5, 3) := wt_op153 wb15m5_prog_13_method_11_code_c0 4 rfl rfl rfl
theorem wp_md_number_d7 : decode prog_13_method_11_code 7 = .ok (.iconst 0, 1) := wt_op3 wb15m5_prog_13_method_11_code_c0 7 rfl rfl
theorem wp_md_number_d8 : decode prog_13_method_11_code 8 = .ok (.ireturn, 1) := wt_op172 wb15m5_prog_13_method_11_code_c0 8 rfl rfl
theorem wp_md_number_d9 : decode prog_13_method_11_code 9 = .ok (.aload_n 0, 1) := wt_op42 wb15m5_prog_13_method_11_code_c0 9 rfl rfl
theorem wp_md_number_d10 : decode prog_13_method_11_code 10 = .ok (.invokevirtual 173, 3) := wt_op182 wb15m5_prog_13_method_11_code_c0 10 rfl rfl rfl
theorem wp_md_number_d13 : decode prog_13_method_11_code 13 = .ok (.aload_n 0, 1) := wt_op42 wb15m5_prog_13_method_11_code_c0 13 rfl rfl
theorem wp_md_number_d14 : decode prog_13_method_11_code 14 = .ok (.getfield 160, 3) := wt_op180 wb15m5_prog_13_method_11_code_c0 14 rfl rfl rfl
theorem wp_md_number_d17 : decode prog_13_method_11_code 17 = .ok (.istore_n 3, 1) := wt_op62 wb15m5_prog_13_method_11_code_c0 17 rfl rfl
theorem wp_md_number_d18 : decode prog_13_method_11_code 18 = .ok (.iconst 0, 1) := wt_op3 wb15m5_prog_13_method_11_code_c0 18 rfl rfl
theorem wp_md_number_d19 : decode prog_13_method_11_code 19 = .ok (.istore 4, 2) := wt_op54 wb15m5_prog_13_method_11_code_c0 19 rfl rfl
theorem wp_md_number_d21 : decode prog_13_method_11_code 21 = .ok (.aload_n 0, 1) := wt_op42 wb15m5_prog_13_method_11_code_c0 21 rfl rfl
theorem wp_md_number_d22 : decode prog_13_method_11_code 22 = .ok (.aload_n 0, 1) := wt_op42 wb15m5_prog_13_method_11_code_c0 22 rfl rfl
theorem wp_md_number_d23 : decode prog_13_method_11_code 23 = .ok (.getfield 160, 3) := wt_op180 wb15m5_prog_13_method_11_code_c0 23 rfl rfl rfl
theorem wp_md_number_d26 : decode prog_13_method_11_code 26 = .ok (.invokevirtual 163, 3) := wt_op182 wb15m5_prog_13_method_11_code_c0 26 rfl rfl rfl
theorem wp_md_number_d29 : decode prog_13_method_11_code 29 = .ok (.invokestatic 176, 3) := wt_op184 wb15m5_prog_13_method_11_code_c1 0 rfl rfl rfl
theorem wp_md_number_d32 : decode prog_13_method_11_code 32 = .ok (.ifCond .ne 12, 3) := wt_op154 wb15m5_prog_13_method_11_code_c1 3 rfl rfl rfl
theorem wp_md_number_d35 : decode prog_13_method_11_code 35 = .ok (.aload_n 0, 1) := wt_op42 wb15m5_prog_13_method_11_code_c1 6 rfl rfl
theorem wp_md_number_d36 : decode prog_13_method_11_code 36 = .ok (.iconst 1, 1) := wt_op4 wb15m5_prog_13_method_11_code_c1 7 rfl rfl
theorem wp_md_number_d37 : decode prog_13_method_11_code 37 = .ok (.aload_n 0, 1) := wt_op42 wb15m5_prog_13_method_11_code_c1 8 rfl rfl
theorem wp_md_number_d38 : decode prog_13_method_11_code 38 = .ok (.getfield 160, 3) := wt_op180 wb15m5_prog_13_method_11_code_c1 9 rfl rfl rfl
theorem wp_md_number_d41 : decode prog_13_method_11_code 41 = .ok (.invokevirtual 180, 3) := wt_op182 wb15m5_prog_13_method_11_code_c1 12 rfl rfl rfl
theorem wp_md_number_d44 : decode prog_13_method_11_code 44 = .ok (.aload_n 0, 1) := wt_op42 wb15m5_prog_13_method_11_code_c1 15 rfl rfl
theorem wp_md_number_d45 : decode prog_13_method_11_code 45 = .ok (.aload_n 0, 1) := wt_op42 wb15m5_prog_13_method_11_code_c1 16 rfl rfl
theorem wp_md_number_d46 : decode prog_13_method_11_code 46 = .ok (.getfield 160, 3) := wt_op180 wb15m5_prog_13_method_11_code_c1 17 rfl rfl rfl
theorem wp_md_number_d49 : decode prog_13_method_11_code 49 = .ok (.invokevirtual 163, 3) := wt_op182 wb15m5_prog_13_method_11_code_c1 20 rfl rfl rfl
theorem wp_md_number_d52 : decode prog_13_method_11_code 52 = .ok (.invokestatic 176, 3) := wt_op184 wb15m5_prog_13_method_11_code_c1 23 rfl rfl rfl
theorem wp_md_number_d55 : decode prog_13_method_11_code 55 = .ok (.ifCond .eq 51, 3) := wt_op153 wb15m5_prog_13_method_11_code_c1 26 rfl rfl rfl
theorem wp_md_number_d58 : decode prog_13_method_11_code 58 = .ok (.bipush 10, 2) := wt_op16 wb15m5_prog_13_method_11_code_c2 0 rfl rfl rfl
theorem wp_md_number_d60 : decode prog_13_method_11_code 60 = .ok (.iload 4, 2) := wt_op21 wb15m5_prog_13_method_11_code_c2 2 rfl rfl
theorem wp_md_number_d62 : decode prog_13_method_11_code 62 = .ok (.imul, 1) := wt_op104 wb15m5_prog_13_method_11_code_c2 4 rfl rfl
theorem wp_md_number_d63 : decode prog_13_method_11_code 63 = .ok (.aload_n 0, 1) := wt_op42 wb15m5_prog_13_method_11_code_c2 5 rfl rfl
theorem wp_md_number_d64 : decode prog_13_method_11_code 64 = .ok (.aload_n 0, 1) := wt_op42 wb15m5_prog_13_method_11_code_c2 6 rfl rfl
theorem wp_md_number_d65 : decode prog_13_method_11_code 65 = .ok (.getfield 160, 3) := wt_op180 wb15m5_prog_13_method_11_code_c2 7 rfl rfl rfl
theorem wp_md_number_d68 : decode prog_13_method_11_code 68 = .ok (.invokevirtual 163, 3) := wt_op182 wb15m5_prog_13_method_11_code_c2 10 rfl rfl rfl
theorem wp_md_number_d71 : decode prog_13_method_11_code 71 = .ok (.iadd, 1) := wt_op96 wb15m5_prog_13_method_11_code_c2 13 rfl rfl
theorem wp_md_number_d72 : decode prog_13_method_11_code 72 = .ok (.bipush 48, 2) := wt_op16 wb15m5_prog_13_method_11_code_c2 14 rfl rfl rfl
theorem wp_md_number_d74 : decode prog_13_method_11_code 74 = .ok (.isub, 1) := wt_op100 wb15m5_prog_13_method_11_code_c2 16 rfl rfl
theorem wp_md_number_d75 : decode prog_13_method_11_code 75 = .ok (.istore 4, 2) := wt_op54 wb15m5_prog_13_method_11_code_c2 17 rfl rfl
theorem wp_md_number_d77 : decode prog_13_method_11_code 77 = .ok (.iload 4, 2) := wt_op21 wb15m5_prog_13_method_11_code_c2 19 rfl rfl
theorem wp_md_number_d79 : decode prog_13_method_11_code 79 = .ok (.ldc 184, 2) := wt_op18 wb15m5_prog_13_method_11_code_c2 21 rfl rfl
theorem wp_md_number_d81 : decode prog_13_method_11_code 81 = .ok (.if_icmp .le 8, 3) := wt_op164 wb15m5_prog_13_method_11_code_c2 23 rfl rfl rfl
theorem wp_md_number_d84 : decode prog_13_method_11_code 84 = .ok (.ldc 184, 2) := wt_op18 wb15m5_prog_13_method_11_code_c2 26 rfl rfl
theorem wp_md_number_d86 : decode prog_13_method_11_code 86 = .ok (.goto 5, 3) := wt_op167 wb15m5_prog_13_method_11_code_c3 0 rfl rfl rfl
theorem wp_md_number_d89 : decode prog_13_method_11_code 89 = .ok (.iload 4, 2) := wt_op21 wb15m5_prog_13_method_11_code_c3 3 rfl rfl
theorem wp_md_number_d91 : decode prog_13_method_11_code 91 = .ok (.istore 4, 2) := wt_op54 wb15m5_prog_13_method_11_code_c3 5 rfl rfl
theorem wp_md_number_d93 : decode prog_13_method_11_code 93 = .ok (.aload_n 0, 1) := wt_op42 wb15m5_prog_13_method_11_code_c3 7 rfl rfl
theorem wp_md_number_d94 : decode prog_13_method_11_code 94 = .ok (.dup, 1) := wt_op89 wb15m5_prog_13_method_11_code_c3 8 rfl rfl
theorem wp_md_number_d95 : decode prog_13_method_11_code 95 = .ok (.getfield 160, 3) := wt_op180 wb15m5_prog_13_method_11_code_c3 9 rfl rfl rfl
theorem wp_md_number_d98 : decode prog_13_method_11_code 98 = .ok (.iconst 1, 1) := wt_op4 wb15m5_prog_13_method_11_code_c3 12 rfl rfl
theorem wp_md_number_d99 : decode prog_13_method_11_code 99 = .ok (.iadd, 1) := wt_op96 wb15m5_prog_13_method_11_code_c3 13 rfl rfl
theorem wp_md_number_d100 : decode prog_13_method_11_code 100 = .ok (.putfield 160, 3) := wt_op181 wb15m5_prog_13_method_11_code_c3 14 rfl rfl rfl
theorem wp_md_number_d103 : decode prog_13_method_11_code 103 = .ok (.goto (-59), 3) := wt_op167 wb15m5_prog_13_method_11_code_c3 17 rfl rfl rfl
theorem wp_md_number_d106 : decode prog_13_method_11_code 106 = .ok (.iload 4, 2) := wt_op21 wb15m5_prog_13_method_11_code_c3 20 rfl rfl
theorem wp_md_number_d108 : decode prog_13_method_11_code 108 = .ok (.iload_n 1, 1) := wt_op27 wb15m5_prog_13_method_11_code_c3 22 rfl rfl
theorem wp_md_number_d109 : decode prog_13_method_11_code 109 = .ok (.iload_n 2, 1) := wt_op28 wb15m5_prog_13_method_11_code_c3 23 rfl rfl
theorem wp_md_number_d110 : decode prog_13_method_11_code 110 = .ok (.invokestatic 185, 3) := wt_op184 wb15m5_prog_13_method_11_code_c3 24 rfl rfl rfl
theorem wp_md_number_d113 : decode prog_13_method_11_code 113 = .ok (.ifCond .ne 9, 3) := wt_op154 wb15m5_prog_13_method_11_code_c3 27 rfl rfl rfl
theorem wp_md_number_d116 : decode prog_13_method_11_code 116 = .ok (.aload_n 0, 1) := wt_op42 wb15m5_prog_13_method_11_code_c4 0 rfl rfl
theorem wp_md_number_d117 : decode prog_13_method_11_code 117 = .ok (.iconst 2, 1) := wt_op5 wb15m5_prog_13_method_11_code_c4 1 rfl rfl
theorem wp_md_number_d118 : decode prog_13_method_11_code 118 = .ok (.iload_n 3, 1) := wt_op29 wb15m5_prog_13_method_11_code_c4 2 rfl rfl
theorem wp_md_number_d119 : decode prog_13_method_11_code 119 = .ok (.invokevirtual 180, 3) := wt_op182 wb15m5_prog_13_method_11_code_c4 3 rfl rfl rfl
theorem wp_md_number_d122 : decode prog_13_method_11_code 122 = .ok (.aload_n 0, 1) := wt_op42 wb15m5_prog_13_method_11_code_c4 6 rfl rfl
theorem wp_md_number_d123 : decode prog_13_method_11_code 123 = .ok (.getfield 167, 3) := wt_op180 wb15m5_prog_13_method_11_code_c4 7 rfl rfl rfl
theorem wp_md_number_d126 : decode prog_13_method_11_code 126 = .ok (.ifCond .ne 8, 3) := wt_op154 wb15m5_prog_13_method_11_code_c4 10 rfl rfl rfl
theorem wp_md_number_d129 : decode prog_13_method_11_code 129 = .ok (.iload 4, 2) := wt_op21 wb15m5_prog_13_method_11_code_c4 13 rfl rfl
theorem wp_md_number_d131 : decode prog_13_method_11_code 131 = .ok (.goto 4, 3) := wt_op167 wb15m5_prog_13_method_11_code_c4 15 rfl rfl rfl
theorem wp_md_number_d134 : decode prog_13_method_11_code 134 = .ok (.iconst 0, 1) := wt_op3 wb15m5_prog_13_method_11_code_c4 18 rfl rfl
theorem wp_md_number_d135 : decode prog_13_method_11_code 135 = .ok (.ireturn, 1) := wt_op172 wb15m5_prog_13_method_11_code_c4 19 rfl rfl
noncomputable def wp_md_number_B122 (n : Nat) (x4 : Int32) (σ : wt_St) : Option (Int32 × wt_St) :=
  if (wt_gf σ 108 5) = 0 then
    some (x4, σ)
  else
    some ((0 : Int32), σ)
set_option maxRecDepth 100000 in
set_option maxHeartbeats 4000000 in
theorem wp_md_number_B122_ok  {x4 : Int32} {X : wt_X} {n : Nat} {res : Int32 × wt_St} (hE : wt_Ok X prog_13_method_11_code 5 "WornTypeModel" 2 0) (hR : wt_Rt X (some .int) (some res.1) res.2) (hD : ∀ i, 108 ≤ i → i < 321 → wt_dom (wt_xw X) i)  {σ : wt_St} (h : wp_md_number_B122 n x4 σ = some res) : wt_V X 0 σ 122 [some (.ref (wt_ad (wt_xw X) 108)), none, none, none, some (.int x4)] [] := by
  unfold wp_md_number_B122 at h
  refine wt_aload_n hE wp_md_number_d122 rfl ?_
  refine wt_geti hE wt_lf_md_167 (hD 108 (by decide) (by decide)) wt_L108 rfl wp_md_number_d123 ?_
  refine wt_if_ne hE 134 wp_md_number_d126 rfl (fun c11 => ?_) (fun c11 => ?_)
  · have h := wt_in c11 h
    refine wt_iconst hE (0 : Int32) wp_md_number_d134 wt_ci_0 ?_
    cases h
    exact wt_iret hE hR wp_md_number_d135
  · have h := wt_ip c11 h
    refine wt_iload hE wp_md_number_d129 rfl ?_
    refine wt_goto hE 135 wp_md_number_d131 rfl ?_
    cases h
    exact wt_iret hE hR wp_md_number_d135
noncomputable def wp_md_number_B91 (n : Nat) (x1 : Int32) (x2 : Int32) (x3 : Int32) (K44 : Int32 × wt_St → Option (Int32 × wt_St)) (y0 : Int32) (σ : wt_St) : Option (Int32 × wt_St) :=
  K44 (y0, (wt_sf σ 108 4 ((wt_gf σ 108 4) + (1 : Int32))))
set_option maxRecDepth 100000 in
set_option maxHeartbeats 4000000 in
theorem wp_md_number_B91_ok  {x1 : Int32} {x2 : Int32} {x3 : Int32} {X : wt_X} {n : Nat} {res : Int32 × wt_St} (hE : wt_Ok X prog_13_method_11_code 5 "WornTypeModel" 2 0) (hR : wt_Rt X (some .int) (some res.1) res.2) (hD : ∀ i, 108 ≤ i → i < 321 → wt_dom (wt_xw X) i)  {K44 : Int32 × wt_St → Option (Int32 × wt_St)} (hK44 : ∀ s : Int32 × wt_St, K44 s = some res → wt_V X 0 s.2 44 [some (.ref (wt_ad (wt_xw X) 108)), some (.int x1), some (.int x2), some (.int x3), some (.int s.1)] []) {σ : wt_St} {y0 : Int32} (h : wp_md_number_B91 n x1 x2 x3 K44 y0 σ = some res) : wt_V X 0 σ 91 [some (.ref (wt_ad (wt_xw X) 108)), some (.int x1), some (.int x2), some (.int x3), none] [.int y0] := by
  unfold wp_md_number_B91 at h
  refine wt_istore hE [some (.ref (wt_ad (wt_xw X) 108)), some (.int x1), some (.int x2), some (.int x3), some (.int y0)] wp_md_number_d91 (Nat.le_of_ble_eq_true rfl) rfl ?_
  refine wt_aload_n hE wp_md_number_d93 rfl ?_
  refine wt_dup hE wp_md_number_d94 rfl ?_
  refine wt_geti hE wt_lf_md_160 (hD 108 (by decide) (by decide)) wt_L108 rfl wp_md_number_d95 ?_
  refine wt_iconst hE (1 : Int32) wp_md_number_d98 wt_ci_1 ?_
  refine wt_iadd hE wp_md_number_d99 ?_
  refine wt_puti hE wt_lf_md_160 (hD 108 (by decide) (by decide)) wt_L108 rfl (fun q hq => by cases hq; rfl) wp_md_number_d100 ?_
  refine wt_goto hE 44 wp_md_number_d103 rfl ?_
  exact hK44 (y0, (wt_sf σ 108 4 ((wt_gf σ 108 4) + (1 : Int32)))) h
noncomputable def wp_md_number_B44 (n : Nat) (x1 : Int32) (x2 : Int32) (x3 : Int32) (K44 : Int32 × wt_St → Option (Int32 × wt_St)) (s : Int32 × wt_St) : Option (Int32 × wt_St) :=
  (wp_md_byteAt n (wt_gf s.2 108 4) s.2).bind fun q6 =>
  (wp_md_isDigit n q6.1 q6.2).bind fun q7 =>
  if q7.1 = 0 then
    (wp_md_in n s.1 x1 x2 q7.2).bind fun q9 =>
    if q9.1 = 0 then
      (wp_md_wrong n (2 : Int32) x3 q9.2).bind fun q12 =>
      wp_md_number_B122 n s.1 q12
    else
      wp_md_number_B122 n s.1 q9.2
  else
    (wp_md_byteAt n (wt_gf q7.2 108 4) q7.2).bind fun q13 =>
    if ((((10 : Int32) * s.1) + q13.1) - (48 : Int32)) ≤ (100000 : Int32) then
      wp_md_number_B91 n x1 x2 x3 K44 ((((10 : Int32) * s.1) + q13.1) - (48 : Int32)) q13.2
    else
      wp_md_number_B91 n x1 x2 x3 K44 (100000 : Int32) q13.2
set_option maxRecDepth 100000 in
set_option maxHeartbeats 4000000 in
theorem wp_md_number_B44_ok  {x1 : Int32} {x2 : Int32} {x3 : Int32} {X : wt_X} {n : Nat} {res : Int32 × wt_St} (hE : wt_Ok X prog_13_method_11_code 5 "WornTypeModel" 2 0) (hR : wt_Rt X (some .int) (some res.1) res.2) (hD : ∀ i, 108 ≤ i → i < 321 → wt_dom (wt_xw X) i)  {K44 : Int32 × wt_St → Option (Int32 × wt_St)} (hK44 : ∀ s : Int32 × wt_St, K44 s = some res → wt_V X 0 s.2 44 [some (.ref (wt_ad (wt_xw X) 108)), some (.int x1), some (.int x2), some (.int x3), some (.int s.1)] []) {s : Int32 × wt_St} (h : wp_md_number_B44 n x1 x2 x3 K44 s = some res) : wt_V X 0 s.2 44 [some (.ref (wt_ad (wt_xw X) 108)), some (.int x1), some (.int x2), some (.int x3), some (.int s.1)] [] := by
  unfold wp_md_number_B44 at h
  refine wt_aload_n hE wp_md_number_d44 rfl ?_
  refine wt_aload_n hE wp_md_number_d45 rfl ?_
  refine wt_geti hE wt_lf_md_160 (hD 108 (by decide) (by decide)) wt_L108 rfl wp_md_number_d46 ?_
  obtain ⟨q6, hq6, h⟩ := wt_bi h
  refine wt_callVi hE [.int (wt_gf s.2 108 4)] wt_lm_md_163 wt_ya_md_byteAt (wp_md_byteAt_ok hD hq6) (by omega) (hD 108 (by decide) (by decide)) wt_L108 rfl rfl rfl (Nat.le_of_ble_eq_true rfl) (Nat.zero_le _) wp_md_number_d49 (fun hbq6 => ?_)
  obtain ⟨q7, hq7, h⟩ := wt_bi h
  refine wt_callSi hE [.int q6.1] wt_lm_md_176 wt_ya_md_isDigit (wp_md_isDigit_ok hq7) (by omega) rfl rfl (Nat.le_of_ble_eq_true rfl) (Nat.zero_le _) wp_md_number_d52 (fun hbq7 => ?_)
  refine wt_if_eq hE 106 wp_md_number_d55 rfl (fun c8 => ?_) (fun c8 => ?_)
  · have h := wt_ip c8 h
    refine wt_iload hE wp_md_number_d106 rfl ?_
    refine wt_iload_n hE wp_md_number_d108 rfl ?_
    refine wt_iload_n hE wp_md_number_d109 rfl ?_
    obtain ⟨q9, hq9, h⟩ := wt_bi h
    refine wt_callSi hE [.int s.1, .int x1, .int x2] wt_lm_md_185 wt_ya_md_in (wp_md_in_ok hq9) (by omega) rfl rfl (Nat.le_of_ble_eq_true rfl) (Nat.zero_le _) wp_md_number_d110 (fun hbq9 => ?_)
    refine wt_if_ne hE 122 wp_md_number_d113 rfl (fun c10 => ?_) (fun c10 => ?_)
    · have h := wt_in c10 h
      refine wt_wk [true, false, false, false, true] rfl ?_
      exact wp_md_number_B122_ok hE hR hD h
    · have h := wt_ip c10 h
      refine wt_aload_n hE wp_md_number_d116 rfl ?_
      refine wt_iconst hE (2 : Int32) wp_md_number_d117 wt_ci_2 ?_
      refine wt_iload_n hE wp_md_number_d118 rfl ?_
      obtain ⟨q12, hq12, h⟩ := wt_bi h
      refine wt_callVv hE [.int (2 : Int32), .int x3] wt_lm_md_180 wt_ya_md_wrong (wp_md_wrong_ok hD hq12) (by omega) (hD 108 (by decide) (by decide)) wt_L108 rfl rfl rfl (Nat.le_of_ble_eq_true rfl) (Nat.zero_le _) wp_md_number_d119 ?_
      refine wt_wk [true, false, false, false, true] rfl ?_
      exact wp_md_number_B122_ok hE hR hD h
  · have h := wt_in c8 h
    refine wt_bipush hE (10 : Int32) wp_md_number_d58 wt_cb_10 ?_
    refine wt_iload hE wp_md_number_d60 rfl ?_
    refine wt_imul hE wp_md_number_d62 ?_
    refine wt_aload_n hE wp_md_number_d63 rfl ?_
    refine wt_aload_n hE wp_md_number_d64 rfl ?_
    refine wt_geti hE wt_lf_md_160 (hD 108 (by decide) (by decide)) wt_L108 rfl wp_md_number_d65 ?_
    obtain ⟨q13, hq13, h⟩ := wt_bi h
    refine wt_callVi hE [.int (wt_gf q7.2 108 4)] wt_lm_md_163 wt_ya_md_byteAt (wp_md_byteAt_ok hD hq13) (by omega) (hD 108 (by decide) (by decide)) wt_L108 rfl rfl rfl (Nat.le_of_ble_eq_true rfl) (Nat.zero_le _) wp_md_number_d68 (fun hbq13 => ?_)
    refine wt_iadd hE wp_md_number_d71 ?_
    refine wt_bipush hE (48 : Int32) wp_md_number_d72 wt_cb_48 ?_
    refine wt_isub hE wp_md_number_d74 ?_
    refine wt_istore hE [some (.ref (wt_ad (wt_xw X) 108)), some (.int x1), some (.int x2), some (.int x3), some (.int ((((10 : Int32) * s.1) + q13.1) - (48 : Int32)))] wp_md_number_d75 (Nat.le_of_ble_eq_true rfl) rfl ?_
    refine wt_iload hE wp_md_number_d77 rfl ?_
    refine wt_ldc hE (100000 : Int32) wt_lc_md_184 wp_md_number_d79 ?_
    refine wt_icmp_le hE 89 wp_md_number_d81 rfl (fun c14 => ?_) (fun c14 => ?_)
    · have h := wt_ip c14 h
      refine wt_iload hE wp_md_number_d89 rfl ?_
      refine wt_wk [true, true, true, true, false] rfl ?_
      exact wp_md_number_B91_ok hE hR hD hK44 h
    · have h := wt_in c14 h
      refine wt_ldc hE (100000 : Int32) wt_lc_md_184 wp_md_number_d84 ?_
      refine wt_goto hE 91 wp_md_number_d86 rfl ?_
      refine wt_wk [true, true, true, true, false] rfl ?_
      exact wp_md_number_B91_ok hE hR hD hK44 h
noncomputable def wp_md_number (n : Nat) (x1 : Int32) (x2 : Int32) (σ : wt_St) : Option (Int32 × wt_St) :=
  if (wt_gf σ 108 5) = 0 then
    (wp_md_blanks n σ).bind fun q2 =>
    (wp_md_byteAt n (wt_gf q2 108 4) q2).bind fun q3 =>
    (wp_md_isDigit n q3.1 q3.2).bind fun q4 =>
    if q4.1 = 0 then
      (wp_md_wrong n (1 : Int32) (wt_gf q4.2 108 4) q4.2).bind fun q15 =>
      wt_it (wp_md_number_B44 n x1 x2 (wt_gf q2 108 4)) n ((0 : Int32), q15)
    else
      wt_it (wp_md_number_B44 n x1 x2 (wt_gf q2 108 4)) n ((0 : Int32), q4.2)
  else
    some ((0 : Int32), σ)
set_option maxRecDepth 100000 in
set_option maxHeartbeats 4000000 in
theorem wp_md_number_ok {l : Launch} {w : wt_E} {n : Nat} {x1 : Int32} {x2 : Int32} (hD : ∀ i, 108 ≤ i → i < 321 → wt_dom w i) {σ : wt_St} {q : Int32 × wt_St} (h : wp_md_number n x1 x2 σ = some q) : wt_Ctr l w wt_y_md_number prog_13_method_11_code 5 (some .int) 2 [.ref (wt_ad w 108), .int x1, .int x2] σ (some q.1) q.2 := by
  refine wt_ctr wt_pl_md_number rfl (Nat.le_of_ble_eq_true rfl) [some (.ref (wt_ad w 108)), some (.int x1), some (.int x2), none, none] rfl ?_
  intro X hXl hXw hE hR
  subst hXl
  subst hXw
  have hE : wt_Ok X prog_13_method_11_code 5 "WornTypeModel" 2 0 := hE
  unfold wp_md_number at h
  refine wt_aload_n hE wp_md_number_d0 rfl ?_
  refine wt_geti hE wt_lf_md_167 (hD 108 (by decide) (by decide)) wt_L108 rfl wp_md_number_d1 ?_
  refine wt_if_eq hE 9 wp_md_number_d4 rfl (fun c1 => ?_) (fun c1 => ?_)
  · have h := wt_ip c1 h
    refine wt_aload_n hE wp_md_number_d9 rfl ?_
    obtain ⟨q2, hq2, h⟩ := wt_bi h
    refine wt_callVv hE [] wt_lm_md_173 wt_ya_md_blanks (wp_md_blanks_ok hD hq2) (by omega) (hD 108 (by decide) (by decide)) wt_L108 rfl rfl rfl (Nat.le_of_ble_eq_true rfl) (Nat.zero_le _) wp_md_number_d10 ?_
    refine wt_aload_n hE wp_md_number_d13 rfl ?_
    refine wt_geti hE wt_lf_md_160 (hD 108 (by decide) (by decide)) wt_L108 rfl wp_md_number_d14 ?_
    refine wt_istore_n hE [some (.ref (wt_ad (wt_xw X) 108)), some (.int x1), some (.int x2), some (.int (wt_gf q2 108 4)), none] wp_md_number_d17 (by decide) rfl ?_
    refine wt_iconst hE (0 : Int32) wp_md_number_d18 wt_ci_0 ?_
    refine wt_istore hE [some (.ref (wt_ad (wt_xw X) 108)), some (.int x1), some (.int x2), some (.int (wt_gf q2 108 4)), some (.int (0 : Int32))] wp_md_number_d19 (Nat.le_of_ble_eq_true rfl) rfl ?_
    refine wt_aload_n hE wp_md_number_d21 rfl ?_
    refine wt_aload_n hE wp_md_number_d22 rfl ?_
    refine wt_geti hE wt_lf_md_160 (hD 108 (by decide) (by decide)) wt_L108 rfl wp_md_number_d23 ?_
    obtain ⟨q3, hq3, h⟩ := wt_bi h
    refine wt_callVi hE [.int (wt_gf q2 108 4)] wt_lm_md_163 wt_ya_md_byteAt (wp_md_byteAt_ok hD hq3) (by omega) (hD 108 (by decide) (by decide)) wt_L108 rfl rfl rfl (Nat.le_of_ble_eq_true rfl) (Nat.zero_le _) wp_md_number_d26 (fun hbq3 => ?_)
    obtain ⟨q4, hq4, h⟩ := wt_bi h
    refine wt_callSi hE [.int q3.1] wt_lm_md_176 wt_ya_md_isDigit (wp_md_isDigit_ok hq4) (by omega) rfl rfl (Nat.le_of_ble_eq_true rfl) (Nat.zero_le _) wp_md_number_d29 (fun hbq4 => ?_)
    refine wt_if_ne hE 44 wp_md_number_d32 rfl (fun c5 => ?_) (fun c5 => ?_)
    · have h := wt_in c5 h
      exact wt_it_ind (fun z => wt_V X 0 z.2 44 [some (.ref (wt_ad (wt_xw X) 108)), some (.int x1), some (.int x2), some (.int (wt_gf q2 108 4)), some (.int z.1)] []) (fun K hK z h => wp_md_number_B44_ok hE hR hD hK h) n ((0 : Int32), q4.2) h
    · have h := wt_ip c5 h
      refine wt_aload_n hE wp_md_number_d35 rfl ?_
      refine wt_iconst hE (1 : Int32) wp_md_number_d36 wt_ci_1 ?_
      refine wt_aload_n hE wp_md_number_d37 rfl ?_
      refine wt_geti hE wt_lf_md_160 (hD 108 (by decide) (by decide)) wt_L108 rfl wp_md_number_d38 ?_
      obtain ⟨q15, hq15, h⟩ := wt_bi h
      refine wt_callVv hE [.int (1 : Int32), .int (wt_gf q4.2 108 4)] wt_lm_md_180 wt_ya_md_wrong (wp_md_wrong_ok hD hq15) (by omega) (hD 108 (by decide) (by decide)) wt_L108 rfl rfl rfl (Nat.le_of_ble_eq_true rfl) (Nat.zero_le _) wp_md_number_d41 ?_
      exact wt_it_ind (fun z => wt_V X 0 z.2 44 [some (.ref (wt_ad (wt_xw X) 108)), some (.int x1), some (.int x2), some (.int (wt_gf q2 108 4)), some (.int z.1)] []) (fun K hK z h => wp_md_number_B44_ok hE hR hD hK h) n ((0 : Int32), q15) h
  · have h := wt_in c1 h
    refine wt_iconst hE (0 : Int32) wp_md_number_d7 wt_ci_0 ?_
    cases h
    exact wt_iret hE hR wp_md_number_d8
def wb15m5_prog_13_method_22_code_r2 : List (List Nat) := [43, 29, 92, 46, 4, 96, 79, 132, 6, 1, 167, 255, 221, 177] :: []
def wb15m5_prog_13_method_22_code_r1 : List (List Nat) := [3, 54, 6, 21, 6, 21, 4, 162, 0, 34, 42, 180, 0, 167, 154, 0, 27, 44, 29, 43, 29, 46, 184, 0, 227, 21, 5, 79] :: wb15m5_prog_13_method_22_code_r2
def wb15m5_prog_13_method_22_code_r0 : List (List Nat) := [42, 182, 0, 216, 62, 42, 4, 16, 12, 43, 29, 46, 100, 182, 0, 219, 54, 4, 42, 4, 17, 1, 144, 182, 0, 219, 54, 5] :: wb15m5_prog_13_method_22_code_r1
set_option maxRecDepth 100000 in
theorem wb15m5_prog_13_method_22_code_c0 : wt_cs prog_13_method_22_code 0 wb15m5_prog_13_method_22_code_r0 := wt_cs_of (by decide +kernel)
theorem wb15m5_prog_13_method_22_code_c1 : wt_cs prog_13_method_22_code 28 wb15m5_prog_13_method_22_code_r1 := wt_cs_tl (m := 28) wb15m5_prog_13_method_22_code_c0 rfl rfl
theorem wb15m5_prog_13_method_22_code_c2 : wt_cs prog_13_method_22_code 56 wb15m5_prog_13_method_22_code_r2 := wt_cs_tl (m := 28) wb15m5_prog_13_method_22_code_c1 rfl rfl
theorem wp_md_pieces_d0 : decode prog_13_method_22_code 0 = .ok (.aload_n 0, 1) := wt_op42 wb15m5_prog_13_method_22_code_c0 0 rfl rfl
theorem wp_md_pieces_d1 : decode prog_13_method_22_code 1 = .ok (.invokevirtual 216, 3) := wt_op182 wb15m5_prog_13_method_22_code_c0 1 rfl rfl rfl
theorem wp_md_pieces_d4 : decode prog_13_method_22_code 4 = .ok (.istore_n 3, 1) := wt_op62 wb15m5_prog_13_method_22_code_c0 4 rfl rfl
theorem wp_md_pieces_d5 : decode prog_13_method_22_code 5 = .ok (.aload_n 0, 1) := wt_op42 wb15m5_prog_13_method_22_code_c0 5 rfl rfl
theorem wp_md_pieces_d6 : decode prog_13_method_22_code 6 = .ok (.iconst 1, 1) := wt_op4 wb15m5_prog_13_method_22_code_c0 6 rfl rfl
theorem wp_md_pieces_d7 : decode prog_13_method_22_code 7 = .ok (.bipush 12, 2) := wt_op16 wb15m5_prog_13_method_22_code_c0 7 rfl rfl rfl
theorem wp_md_pieces_d9 : decode prog_13_method_22_code 9 = .ok (.aload_n 1, 1) := wt_op43 wb15m5_prog_13_method_22_code_c0 9 rfl rfl
theorem wp_md_pieces_d10 : decode prog_13_method_22_code 10 = .ok (.iload_n 3, 1) := wt_op29 wb15m5_prog_13_method_22_code_c0 10 rfl rfl
theorem wp_md_pieces_d11 : decode prog_13_method_22_code 11 = .ok (.iaload, 1) := wt_op46 wb15m5_prog_13_method_22_code_c0 11 rfl rfl
theorem wp_md_pieces_d12 : decode prog_13_method_22_code 12 = .ok (.isub, 1) := wt_op100 wb15m5_prog_13_method_22_code_c0 12 rfl rfl
theorem wp_md_pieces_d13 : decode prog_13_method_22_code 13 = .ok (.invokevirtual 219, 3) := wt_op182 wb15m5_prog_13_method_22_code_c0 13 rfl rfl rfl
theorem wp_md_pieces_d16 : decode prog_13_method_22_code 16 = .ok (.istore 4, 2) := wt_op54 wb15m5_prog_13_method_22_code_c0 16 rfl rfl
theorem wp_md_pieces_d18 : decode prog_13_method_22_code 18 = .ok (.aload_n 0, 1) := wt_op42 wb15m5_prog_13_method_22_code_c0 18 rfl rfl
theorem wp_md_pieces_d19 : decode prog_13_method_22_code 19 = .ok (.iconst 1, 1) := wt_op4 wb15m5_prog_13_method_22_code_c0 19 rfl rfl
theorem wp_md_pieces_d20 : decode prog_13_method_22_code 20 = .ok (.sipush 400, 3) := wt_op17 wb15m5_prog_13_method_22_code_c0 20 rfl rfl rfl
theorem wp_md_pieces_d23 : decode prog_13_method_22_code 23 = .ok (.invokevirtual 219, 3) := wt_op182 wb15m5_prog_13_method_22_code_c0 23 rfl rfl rfl
theorem wp_md_pieces_d26 : decode prog_13_method_22_code 26 = .ok (.istore 5, 2) := wt_op54 wb15m5_prog_13_method_22_code_c0 26 rfl rfl
theorem wp_md_pieces_d28 : decode prog_13_method_22_code 28 = .ok (.iconst 0, 1) := wt_op3 wb15m5_prog_13_method_22_code_c1 0 rfl rfl
theorem wp_md_pieces_d29 : decode prog_13_method_22_code 29 = .ok (.istore 6, 2) := wt_op54 wb15m5_prog_13_method_22_code_c1 1 rfl rfl
theorem wp_md_pieces_d31 : decode prog_13_method_22_code 31 = .ok (.iload 6, 2) := wt_op21 wb15m5_prog_13_method_22_code_c1 3 rfl rfl
theorem wp_md_pieces_d33 : decode prog_13_method_22_code 33 = .ok (.iload 4, 2) := wt_op21 wb15m5_prog_13_method_22_code_c1 5 rfl rfl
theorem wp_md_pieces_d35 : decode prog_13_method_22_code 35 = .ok (.if_icmp .ge 34, 3) := wt_op162 wb15m5_prog_13_method_22_code_c1 7 rfl rfl rfl
theorem wp_md_pieces_d38 : decode prog_13_method_22_code 38 = .ok (.aload_n 0, 1) := wt_op42 wb15m5_prog_13_method_22_code_c1 10 rfl rfl
theorem wp_md_pieces_d39 : decode prog_13_method_22_code 39 = .ok (.getfield 167, 3) := wt_op180 wb15m5_prog_13_method_22_code_c1 11 rfl rfl rfl
theorem wp_md_pieces_d42 : decode prog_13_method_22_code 42 = .ok (.ifCond .ne 27, 3) := wt_op154 wb15m5_prog_13_method_22_code_c1 14 rfl rfl rfl
theorem wp_md_pieces_d45 : decode prog_13_method_22_code 45 = .ok (.aload_n 2, 1) := wt_op44 wb15m5_prog_13_method_22_code_c1 17 rfl rfl
theorem wp_md_pieces_d46 : decode prog_13_method_22_code 46 = .ok (.iload_n 3, 1) := wt_op29 wb15m5_prog_13_method_22_code_c1 18 rfl rfl
theorem wp_md_pieces_d47 : decode prog_13_method_22_code 47 = .ok (.aload_n 1, 1) := wt_op43 wb15m5_prog_13_method_22_code_c1 19 rfl rfl
theorem wp_md_pieces_d48 : decode prog_13_method_22_code 48 = .ok (.iload_n 3, 1) := wt_op29 wb15m5_prog_13_method_22_code_c1 20 rfl rfl
theorem wp_md_pieces_d49 : decode prog_13_method_22_code 49 = .ok (.iaload, 1) := wt_op46 wb15m5_prog_13_method_22_code_c1 21 rfl rfl
theorem wp_md_pieces_d50 : decode prog_13_method_22_code 50 = .ok (.invokestatic 227, 3) := wt_op184 wb15m5_prog_13_method_22_code_c1 22 rfl rfl rfl
theorem wp_md_pieces_d53 : decode prog_13_method_22_code 53 = .ok (.iload 5, 2) := wt_op21 wb15m5_prog_13_method_22_code_c1 25 rfl rfl
theorem wp_md_pieces_d55 : decode prog_13_method_22_code 55 = .ok (.iastore, 1) := wt_op79 wb15m5_prog_13_method_22_code_c1 27 rfl rfl
theorem wp_md_pieces_d56 : decode prog_13_method_22_code 56 = .ok (.aload_n 1, 1) := wt_op43 wb15m5_prog_13_method_22_code_c2 0 rfl rfl
theorem wp_md_pieces_d57 : decode prog_13_method_22_code 57 = .ok (.iload_n 3, 1) := wt_op29 wb15m5_prog_13_method_22_code_c2 1 rfl rfl
theorem wp_md_pieces_d58 : decode prog_13_method_22_code 58 = .ok (.dup2, 1) := wt_op92 wb15m5_prog_13_method_22_code_c2 2 rfl rfl
theorem wp_md_pieces_d59 : decode prog_13_method_22_code 59 = .ok (.iaload, 1) := wt_op46 wb15m5_prog_13_method_22_code_c2 3 rfl rfl
theorem wp_md_pieces_d60 : decode prog_13_method_22_code 60 = .ok (.iconst 1, 1) := wt_op4 wb15m5_prog_13_method_22_code_c2 4 rfl rfl
theorem wp_md_pieces_d61 : decode prog_13_method_22_code 61 = .ok (.iadd, 1) := wt_op96 wb15m5_prog_13_method_22_code_c2 5 rfl rfl
theorem wp_md_pieces_d62 : decode prog_13_method_22_code 62 = .ok (.iastore, 1) := wt_op79 wb15m5_prog_13_method_22_code_c2 6 rfl rfl
theorem wp_md_pieces_d63 : decode prog_13_method_22_code 63 = .ok (.iinc 6 1, 3) := wt_op132 wb15m5_prog_13_method_22_code_c2 7 rfl rfl rfl
theorem wp_md_pieces_d66 : decode prog_13_method_22_code 66 = .ok (.goto (-35), 3) := wt_op167 wb15m5_prog_13_method_22_code_c2 10 rfl rfl rfl
theorem wp_md_pieces_d69 : decode prog_13_method_22_code 69 = .ok (.return_, 1) := wt_op177 wb15m5_prog_13_method_22_code_c2 13 rfl rfl
noncomputable def wp_md_pieces_B31 (n : Nat) (a1 : Nat) (a2 : Nat) (x3 : Int32) (x4 : Int32) (x5 : Int32) (K31 : Int32 × wt_St → Option (wt_St)) (s : Int32 × wt_St) : Option (wt_St) :=
  if x4 ≤ s.1 then
    some s.2
  else
    if (wt_gf s.2 108 5) = 0 then
      if x3 < 0 ∨ (wt_ln a1) ≤ Int32.toNatClampNeg x3 then none else
      (wp_md_cell n x3 (wt_ga s.2 a1 (Int32.toNatClampNeg x3)) s.2).bind fun q8 =>
      if q8.1 < 0 ∨ (wt_ln a2) ≤ Int32.toNatClampNeg q8.1 then none else
      if x3 < 0 ∨ (wt_ln a1) ≤ Int32.toNatClampNeg x3 then none else
      if x3 < 0 ∨ (wt_ln a1) ≤ Int32.toNatClampNeg x3 then none else
      K31 ((s.1 + (1 : Int32)), (wt_sa (wt_sa q8.2 a2 (Int32.toNatClampNeg q8.1) x5) a1 (Int32.toNatClampNeg x3) ((wt_ga (wt_sa q8.2 a2 (Int32.toNatClampNeg q8.1) x5) a1 (Int32.toNatClampNeg x3)) + (1 : Int32))))
    else
      some s.2
set_option maxRecDepth 100000 in
set_option maxHeartbeats 4000000 in
theorem wp_md_pieces_B31_ok  {a1 : Nat} {a2 : Nat} {x3 : Int32} {x4 : Int32} {x5 : Int32} {X : wt_X} {n : Nat} {res : wt_St} (hE : wt_Ok X prog_13_method_22_code 7 "WornTypeModel" 4 0) (hR : wt_Rt X none none res) (hD : ∀ i, 108 ≤ i → i < 321 → wt_dom (wt_xw X) i) (hA_a1 : wt_LAY[a1]? = some (0, wt_ln a1, [])) (hd_a1 : wt_dom (wt_xw X) a1) (hA_a2 : wt_LAY[a2]? = some (0, wt_ln a2, [])) (hd_a2 : wt_dom (wt_xw X) a2) {K31 : Int32 × wt_St → Option (wt_St)} (hK31 : ∀ s : Int32 × wt_St, K31 s = some res → wt_V X 0 s.2 31 [some (.ref (wt_ad (wt_xw X) 108)), some (.ref (wt_ad (wt_xw X) a1)), some (.ref (wt_ad (wt_xw X) a2)), some (.int x3), some (.int x4), some (.int x5), some (.int s.1)] []) {s : Int32 × wt_St} (h : wp_md_pieces_B31 n a1 a2 x3 x4 x5 K31 s = some res) : wt_V X 0 s.2 31 [some (.ref (wt_ad (wt_xw X) 108)), some (.ref (wt_ad (wt_xw X) a1)), some (.ref (wt_ad (wt_xw X) a2)), some (.int x3), some (.int x4), some (.int x5), some (.int s.1)] [] := by
  unfold wp_md_pieces_B31 at h
  refine wt_iload hE wp_md_pieces_d31 rfl ?_
  refine wt_iload hE wp_md_pieces_d33 rfl ?_
  refine wt_icmp_ge hE 69 wp_md_pieces_d35 rfl (fun c5 => ?_) (fun c5 => ?_)
  · have h := wt_ip c5 h
    cases h
    exact wt_vret hE hR wp_md_pieces_d69
  · have h := wt_in c5 h
    refine wt_aload_n hE wp_md_pieces_d38 rfl ?_
    refine wt_geti hE wt_lf_md_167 (hD 108 (by decide) (by decide)) wt_L108 rfl wp_md_pieces_d39 ?_
    refine wt_if_ne hE 69 wp_md_pieces_d42 rfl (fun c6 => ?_) (fun c6 => ?_)
    · have h := wt_in c6 h
      cases h
      exact wt_vret hE hR wp_md_pieces_d69
    · have h := wt_ip c6 h
      refine wt_aload_n hE wp_md_pieces_d45 rfl ?_
      refine wt_iload_n hE wp_md_pieces_d46 rfl ?_
      refine wt_aload_n hE wp_md_pieces_d47 rfl ?_
      refine wt_iload_n hE wp_md_pieces_d48 rfl ?_
      obtain ⟨g7, h⟩ := wt_gd h
      refine wt_iald hE hd_a1 hA_a1 g7 wp_md_pieces_d49 ?_
      obtain ⟨q8, hq8, h⟩ := wt_bi h
      refine wt_callSi hE [.int x3, .int (wt_ga s.2 a1 (Int32.toNatClampNeg x3))] wt_lm_md_227 wt_ya_md_cell (wp_md_cell_ok hq8) (by omega) rfl rfl (Nat.le_of_ble_eq_true rfl) (Nat.zero_le _) wp_md_pieces_d50 (fun hbq8 => ?_)
      refine wt_iload hE wp_md_pieces_d53 rfl ?_
      obtain ⟨g9, h⟩ := wt_gd h
      refine wt_iast hE hd_a2 hA_a2 g9 wp_md_pieces_d55 ?_
      refine wt_aload_n hE wp_md_pieces_d56 rfl ?_
      refine wt_iload_n hE wp_md_pieces_d57 rfl ?_
      refine wt_dup2 hE wp_md_pieces_d58 rfl rfl ?_
      obtain ⟨g10, h⟩ := wt_gd h
      refine wt_iald hE hd_a1 hA_a1 g10 wp_md_pieces_d59 ?_
      refine wt_iconst hE (1 : Int32) wp_md_pieces_d60 wt_ci_1 ?_
      refine wt_iadd hE wp_md_pieces_d61 ?_
      obtain ⟨g11, h⟩ := wt_gd h
      refine wt_iast hE hd_a1 hA_a1 g11 wp_md_pieces_d62 ?_
      refine wt_iinc hE (s.1 + (1 : Int32)) [some (.ref (wt_ad (wt_xw X) 108)), some (.ref (wt_ad (wt_xw X) a1)), some (.ref (wt_ad (wt_xw X) a2)), some (.int x3), some (.int x4), some (.int x5), some (.int (s.1 + (1 : Int32)))] wp_md_pieces_d63 (by decide) rfl rfl rfl ?_
      refine wt_goto hE 31 wp_md_pieces_d66 rfl ?_
      exact hK31 ((s.1 + (1 : Int32)), (wt_sa (wt_sa q8.2 a2 (Int32.toNatClampNeg q8.1) x5) a1 (Int32.toNatClampNeg x3) ((wt_ga (wt_sa q8.2 a2 (Int32.toNatClampNeg q8.1) x5) a1 (Int32.toNatClampNeg x3)) + (1 : Int32)))) h
noncomputable def wp_md_pieces (n : Nat) (a1 : Nat) (a2 : Nat) (σ : wt_St) : Option (wt_St) :=
  (wp_md_letterHere n σ).bind fun q1 =>
  if q1.1 < 0 ∨ (wt_ln a1) ≤ Int32.toNatClampNeg q1.1 then none else
  (wp_md_number n (1 : Int32) ((12 : Int32) - (wt_ga q1.2 a1 (Int32.toNatClampNeg q1.1))) q1.2).bind fun q3 =>
  (wp_md_number n (1 : Int32) (400 : Int32) q3.2).bind fun q4 =>
  wt_it (wp_md_pieces_B31 n a1 a2 q1.1 q3.1 q4.1) n ((0 : Int32), q4.2)
set_option maxRecDepth 100000 in
set_option maxHeartbeats 4000000 in
theorem wp_md_pieces_ok {l : Launch} {w : wt_E} {n : Nat} {a1 : Nat} {a2 : Nat} (hD : ∀ i, 108 ≤ i → i < 321 → wt_dom w i) (hA_a1 : wt_LAY[a1]? = some (0, wt_ln a1, [])) (hd_a1 : wt_dom w a1) (hA_a2 : wt_LAY[a2]? = some (0, wt_ln a2, [])) (hd_a2 : wt_dom w a2) {σ : wt_St} {q : wt_St} (h : wp_md_pieces n a1 a2 σ = some q) : wt_Ctr l w wt_y_md_pieces prog_13_method_22_code 7 none 4 [.ref (wt_ad w 108), .ref (wt_ad w a1), .ref (wt_ad w a2)] σ none q := by
  refine wt_ctr wt_pl_md_pieces rfl (Nat.le_of_ble_eq_true rfl) [some (.ref (wt_ad w 108)), some (.ref (wt_ad w a1)), some (.ref (wt_ad w a2)), none, none, none, none] rfl ?_
  intro X hXl hXw hE hR
  subst hXl
  subst hXw
  have hE : wt_Ok X prog_13_method_22_code 7 "WornTypeModel" 4 0 := hE
  unfold wp_md_pieces at h
  refine wt_aload_n hE wp_md_pieces_d0 rfl ?_
  obtain ⟨q1, hq1, h⟩ := wt_bi h
  refine wt_callVi hE [] wt_lm_md_216 wt_ya_md_letterHere (wp_md_letterHere_ok hD hq1) (by omega) (hD 108 (by decide) (by decide)) wt_L108 rfl rfl rfl (Nat.le_of_ble_eq_true rfl) (Nat.zero_le _) wp_md_pieces_d1 (fun hbq1 => ?_)
  refine wt_istore_n hE [some (.ref (wt_ad (wt_xw X) 108)), some (.ref (wt_ad (wt_xw X) a1)), some (.ref (wt_ad (wt_xw X) a2)), some (.int q1.1), none, none, none] wp_md_pieces_d4 (by decide) rfl ?_
  refine wt_aload_n hE wp_md_pieces_d5 rfl ?_
  refine wt_iconst hE (1 : Int32) wp_md_pieces_d6 wt_ci_1 ?_
  refine wt_bipush hE (12 : Int32) wp_md_pieces_d7 wt_cb_12 ?_
  refine wt_aload_n hE wp_md_pieces_d9 rfl ?_
  refine wt_iload_n hE wp_md_pieces_d10 rfl ?_
  obtain ⟨g2, h⟩ := wt_gd h
  refine wt_iald hE hd_a1 hA_a1 g2 wp_md_pieces_d11 ?_
  refine wt_isub hE wp_md_pieces_d12 ?_
  obtain ⟨q3, hq3, h⟩ := wt_bi h
  refine wt_callVi hE [.int (1 : Int32), .int ((12 : Int32) - (wt_ga q1.2 a1 (Int32.toNatClampNeg q1.1)))] wt_lm_md_219 wt_ya_md_number (wp_md_number_ok hD hq3) (by omega) (hD 108 (by decide) (by decide)) wt_L108 rfl rfl rfl (Nat.le_of_ble_eq_true rfl) (Nat.zero_le _) wp_md_pieces_d13 (fun hbq3 => ?_)
  refine wt_istore hE [some (.ref (wt_ad (wt_xw X) 108)), some (.ref (wt_ad (wt_xw X) a1)), some (.ref (wt_ad (wt_xw X) a2)), some (.int q1.1), some (.int q3.1), none, none] wp_md_pieces_d16 (Nat.le_of_ble_eq_true rfl) rfl ?_
  refine wt_aload_n hE wp_md_pieces_d18 rfl ?_
  refine wt_iconst hE (1 : Int32) wp_md_pieces_d19 wt_ci_1 ?_
  refine wt_sipush hE (400 : Int32) wp_md_pieces_d20 wt_cs_400 ?_
  obtain ⟨q4, hq4, h⟩ := wt_bi h
  refine wt_callVi hE [.int (1 : Int32), .int (400 : Int32)] wt_lm_md_219 wt_ya_md_number (wp_md_number_ok hD hq4) (by omega) (hD 108 (by decide) (by decide)) wt_L108 rfl rfl rfl (Nat.le_of_ble_eq_true rfl) (Nat.zero_le _) wp_md_pieces_d23 (fun hbq4 => ?_)
  refine wt_istore hE [some (.ref (wt_ad (wt_xw X) 108)), some (.ref (wt_ad (wt_xw X) a1)), some (.ref (wt_ad (wt_xw X) a2)), some (.int q1.1), some (.int q3.1), some (.int q4.1), none] wp_md_pieces_d26 (Nat.le_of_ble_eq_true rfl) rfl ?_
  refine wt_iconst hE (0 : Int32) wp_md_pieces_d28 wt_ci_0 ?_
  refine wt_istore hE [some (.ref (wt_ad (wt_xw X) 108)), some (.ref (wt_ad (wt_xw X) a1)), some (.ref (wt_ad (wt_xw X) a2)), some (.int q1.1), some (.int q3.1), some (.int q4.1), some (.int (0 : Int32))] wp_md_pieces_d29 (Nat.le_of_ble_eq_true rfl) rfl ?_
  exact wt_it_ind (fun z => wt_V X 0 z.2 31 [some (.ref (wt_ad (wt_xw X) 108)), some (.ref (wt_ad (wt_xw X) a1)), some (.ref (wt_ad (wt_xw X) a2)), some (.int q1.1), some (.int q3.1), some (.int q4.1), some (.int z.1)] []) (fun K hK z h => wp_md_pieces_B31_ok hE hR hD hA_a1 hd_a1 hA_a2 hd_a2 hK h) n ((0 : Int32), q4.2) h
def wb15m5_prog_13_method_13_code_r2 : List (List Nat) := [172] :: []
def wb15m5_prog_13_method_13_code_r1 : List (List Nat) := [16, 27, 21, 6, 104, 21, 4, 96, 54, 6, 21, 5, 154, 0, 8, 21, 6, 167, 0, 11, 16, 27, 21, 6, 104, 21, 5, 96] :: wb15m5_prog_13_method_13_code_r2
def wb15m5_prog_13_method_13_code_r0 : List (List Nat) := [16, 27, 16, 27, 16, 27, 26, 104, 27, 96, 104, 28, 96, 104, 29, 96, 54, 6, 21, 4, 154, 0, 8, 21, 6, 167, 0, 11] :: wb15m5_prog_13_method_13_code_r1
set_option maxRecDepth 100000 in
theorem wb15m5_prog_13_method_13_code_c0 : wt_cs prog_13_method_13_code 0 wb15m5_prog_13_method_13_code_r0 := wt_cs_of (by decide +kernel)
theorem wb15m5_prog_13_method_13_code_c1 : wt_cs prog_13_method_13_code 28 wb15m5_prog_13_method_13_code_r1 := wt_cs_tl (m := 28) wb15m5_prog_13_method_13_code_c0 rfl rfl
theorem wb15m5_prog_13_method_13_code_c2 : wt_cs prog_13_method_13_code 56 wb15m5_prog_13_method_13_code_r2 := wt_cs_tl (m := 28) wb15m5_prog_13_method_13_code_c1 rfl rfl
theorem wp_md_six_d0 : decode prog_13_method_13_code 0 = .ok (.bipush 27, 2) := wt_op16 wb15m5_prog_13_method_13_code_c0 0 rfl rfl rfl
theorem wp_md_six_d2 : decode prog_13_method_13_code 2 = .ok (.bipush 27, 2) := wt_op16 wb15m5_prog_13_method_13_code_c0 2 rfl rfl rfl
theorem wp_md_six_d4 : decode prog_13_method_13_code 4 = .ok (.bipush 27, 2) := wt_op16 wb15m5_prog_13_method_13_code_c0 4 rfl rfl rfl
theorem wp_md_six_d6 : decode prog_13_method_13_code 6 = .ok (.iload_n 0, 1) := wt_op26 wb15m5_prog_13_method_13_code_c0 6 rfl rfl
theorem wp_md_six_d7 : decode prog_13_method_13_code 7 = .ok (.imul, 1) := wt_op104 wb15m5_prog_13_method_13_code_c0 7 rfl rfl
theorem wp_md_six_d8 : decode prog_13_method_13_code 8 = .ok (.iload_n 1, 1) := wt_op27 wb15m5_prog_13_method_13_code_c0 8 rfl rfl
theorem wp_md_six_d9 : decode prog_13_method_13_code 9 = .ok (.iadd, 1) := wt_op96 wb15m5_prog_13_method_13_code_c0 9 rfl rfl
theorem wp_md_six_d10 : decode prog_13_method_13_code 10 = .ok (.imul, 1) := wt_op104 wb15m5_prog_13_method_13_code_c0 10 rfl rfl
theorem wp_md_six_d11 : decode prog_13_method_13_code 11 = .ok (.iload_n 2, 1) := wt_op28 wb15m5_prog_13_method_13_code_c0 11 rfl rfl
theorem wp_md_six_d12 : decode prog_13_method_13_code 12 = .ok (.iadd, 1) := wt_op96 wb15m5_prog_13_method_13_code_c0 12 rfl rfl
theorem wp_md_six_d13 : decode prog_13_method_13_code 13 = .ok (.imul, 1) := wt_op104 wb15m5_prog_13_method_13_code_c0 13 rfl rfl
theorem wp_md_six_d14 : decode prog_13_method_13_code 14 = .ok (.iload_n 3, 1) := wt_op29 wb15m5_prog_13_method_13_code_c0 14 rfl rfl
theorem wp_md_six_d15 : decode prog_13_method_13_code 15 = .ok (.iadd, 1) := wt_op96 wb15m5_prog_13_method_13_code_c0 15 rfl rfl
theorem wp_md_six_d16 : decode prog_13_method_13_code 16 = .ok (.istore 6, 2) := wt_op54 wb15m5_prog_13_method_13_code_c0 16 rfl rfl
theorem wp_md_six_d18 : decode prog_13_method_13_code 18 = .ok (.iload 4, 2) := wt_op21 wb15m5_prog_13_method_13_code_c0 18 rfl rfl
theorem wp_md_six_d20 : decode prog_13_method_13_code 20 = .ok (.ifCond .ne 8, 3) := wt_op154 wb15m5_prog_13_method_13_code_c0 20 rfl rfl rfl
theorem wp_md_six_d23 : decode prog_13_method_13_code 23 = .ok (.iload 6, 2) := wt_op21 wb15m5_prog_13_method_13_code_c0 23 rfl rfl
theorem wp_md_six_d25 : decode prog_13_method_13_code 25 = .ok (.goto 11, 3) := wt_op167 wb15m5_prog_13_method_13_code_c0 25 rfl rfl rfl
theorem wp_md_six_d28 : decode prog_13_method_13_code 28 = .ok (.bipush 27, 2) := wt_op16 wb15m5_prog_13_method_13_code_c1 0 rfl rfl rfl
theorem wp_md_six_d30 : decode prog_13_method_13_code 30 = .ok (.iload 6, 2) := wt_op21 wb15m5_prog_13_method_13_code_c1 2 rfl rfl
theorem wp_md_six_d32 : decode prog_13_method_13_code 32 = .ok (.imul, 1) := wt_op104 wb15m5_prog_13_method_13_code_c1 4 rfl rfl
theorem wp_md_six_d33 : decode prog_13_method_13_code 33 = .ok (.iload 4, 2) := wt_op21 wb15m5_prog_13_method_13_code_c1 5 rfl rfl
theorem wp_md_six_d35 : decode prog_13_method_13_code 35 = .ok (.iadd, 1) := wt_op96 wb15m5_prog_13_method_13_code_c1 7 rfl rfl
theorem wp_md_six_d36 : decode prog_13_method_13_code 36 = .ok (.istore 6, 2) := wt_op54 wb15m5_prog_13_method_13_code_c1 8 rfl rfl
theorem wp_md_six_d38 : decode prog_13_method_13_code 38 = .ok (.iload 5, 2) := wt_op21 wb15m5_prog_13_method_13_code_c1 10 rfl rfl
theorem wp_md_six_d40 : decode prog_13_method_13_code 40 = .ok (.ifCond .ne 8, 3) := wt_op154 wb15m5_prog_13_method_13_code_c1 12 rfl rfl rfl
theorem wp_md_six_d43 : decode prog_13_method_13_code 43 = .ok (.iload 6, 2) := wt_op21 wb15m5_prog_13_method_13_code_c1 15 rfl rfl
theorem wp_md_six_d45 : decode prog_13_method_13_code 45 = .ok (.goto 11, 3) := wt_op167 wb15m5_prog_13_method_13_code_c1 17 rfl rfl rfl
theorem wp_md_six_d48 : decode prog_13_method_13_code 48 = .ok (.bipush 27, 2) := wt_op16 wb15m5_prog_13_method_13_code_c1 20 rfl rfl rfl
theorem wp_md_six_d50 : decode prog_13_method_13_code 50 = .ok (.iload 6, 2) := wt_op21 wb15m5_prog_13_method_13_code_c1 22 rfl rfl
theorem wp_md_six_d52 : decode prog_13_method_13_code 52 = .ok (.imul, 1) := wt_op104 wb15m5_prog_13_method_13_code_c1 24 rfl rfl
theorem wp_md_six_d53 : decode prog_13_method_13_code 53 = .ok (.iload 5, 2) := wt_op21 wb15m5_prog_13_method_13_code_c1 25 rfl rfl
theorem wp_md_six_d55 : decode prog_13_method_13_code 55 = .ok (.iadd, 1) := wt_op96 wb15m5_prog_13_method_13_code_c1 27 rfl rfl
theorem wp_md_six_d56 : decode prog_13_method_13_code 56 = .ok (.ireturn, 1) := wt_op172 wb15m5_prog_13_method_13_code_c2 0 rfl rfl
noncomputable def wp_md_six_B36 (n : Nat) (x5 : Int32) (y0 : Int32) (σ : wt_St) : Option (Int32 × wt_St) :=
  if x5 = 0 then
    some (y0, σ)
  else
    some ((((27 : Int32) * y0) + x5), σ)
set_option maxRecDepth 100000 in
set_option maxHeartbeats 4000000 in
theorem wp_md_six_B36_ok  {x5 : Int32} {X : wt_X} {n : Nat} {res : Int32 × wt_St} (hE : wt_Ok X prog_13_method_13_code 7 "WornTypeModel" 0 0) (hR : wt_Rt X (some .int) (some res.1) res.2)  {σ : wt_St} {y0 : Int32} (h : wp_md_six_B36 n x5 y0 σ = some res) : wt_V X 0 σ 36 [none, none, none, none, none, some (.int x5), none] [.int y0] := by
  unfold wp_md_six_B36 at h
  refine wt_istore hE [none, none, none, none, none, some (.int x5), some (.int y0)] wp_md_six_d36 (Nat.le_of_ble_eq_true rfl) rfl ?_
  refine wt_iload hE wp_md_six_d38 rfl ?_
  refine wt_if_ne hE 48 wp_md_six_d40 rfl (fun c2 => ?_) (fun c2 => ?_)
  · have h := wt_in c2 h
    refine wt_bipush hE (27 : Int32) wp_md_six_d48 wt_cb_27 ?_
    refine wt_iload hE wp_md_six_d50 rfl ?_
    refine wt_imul hE wp_md_six_d52 ?_
    refine wt_iload hE wp_md_six_d53 rfl ?_
    refine wt_iadd hE wp_md_six_d55 ?_
    cases h
    exact wt_iret hE hR wp_md_six_d56
  · have h := wt_ip c2 h
    refine wt_iload hE wp_md_six_d43 rfl ?_
    refine wt_goto hE 56 wp_md_six_d45 rfl ?_
    cases h
    exact wt_iret hE hR wp_md_six_d56
noncomputable def wp_md_six (n : Nat) (x0 : Int32) (x1 : Int32) (x2 : Int32) (x3 : Int32) (x4 : Int32) (x5 : Int32) (σ : wt_St) : Option (Int32 × wt_St) :=
  if x4 = 0 then
    wp_md_six_B36 n x5 (((27 : Int32) * (((27 : Int32) * (((27 : Int32) * x0) + x1)) + x2)) + x3) σ
  else
    wp_md_six_B36 n x5 (((27 : Int32) * (((27 : Int32) * (((27 : Int32) * (((27 : Int32) * x0) + x1)) + x2)) + x3)) + x4) σ
set_option maxRecDepth 100000 in
set_option maxHeartbeats 4000000 in
theorem wp_md_six_ok {l : Launch} {w : wt_E} {n : Nat} {x0 : Int32} {x1 : Int32} {x2 : Int32} {x3 : Int32} {x4 : Int32} {x5 : Int32} {σ : wt_St} {q : Int32 × wt_St} (h : wp_md_six n x0 x1 x2 x3 x4 x5 σ = some q) : wt_Ctr l w wt_y_md_six prog_13_method_13_code 7 (some .int) 0 [.int x0, .int x1, .int x2, .int x3, .int x4, .int x5] σ (some q.1) q.2 := by
  refine wt_ctr wt_pl_md_six rfl (Nat.le_of_ble_eq_true rfl) [some (.int x0), some (.int x1), some (.int x2), some (.int x3), some (.int x4), some (.int x5), none] rfl ?_
  intro X hXl hXw hE hR
  subst hXl
  subst hXw
  have hE : wt_Ok X prog_13_method_13_code 7 "WornTypeModel" 0 0 := hE
  unfold wp_md_six at h
  refine wt_bipush hE (27 : Int32) wp_md_six_d0 wt_cb_27 ?_
  refine wt_bipush hE (27 : Int32) wp_md_six_d2 wt_cb_27 ?_
  refine wt_bipush hE (27 : Int32) wp_md_six_d4 wt_cb_27 ?_
  refine wt_iload_n hE wp_md_six_d6 rfl ?_
  refine wt_imul hE wp_md_six_d7 ?_
  refine wt_iload_n hE wp_md_six_d8 rfl ?_
  refine wt_iadd hE wp_md_six_d9 ?_
  refine wt_imul hE wp_md_six_d10 ?_
  refine wt_iload_n hE wp_md_six_d11 rfl ?_
  refine wt_iadd hE wp_md_six_d12 ?_
  refine wt_imul hE wp_md_six_d13 ?_
  refine wt_iload_n hE wp_md_six_d14 rfl ?_
  refine wt_iadd hE wp_md_six_d15 ?_
  refine wt_istore hE [some (.int x0), some (.int x1), some (.int x2), some (.int x3), some (.int x4), some (.int x5), some (.int (((27 : Int32) * (((27 : Int32) * (((27 : Int32) * x0) + x1)) + x2)) + x3))] wp_md_six_d16 (Nat.le_of_ble_eq_true rfl) rfl ?_
  refine wt_iload hE wp_md_six_d18 rfl ?_
  refine wt_if_ne hE 28 wp_md_six_d20 rfl (fun c1 => ?_) (fun c1 => ?_)
  · have h := wt_in c1 h
    refine wt_bipush hE (27 : Int32) wp_md_six_d28 wt_cb_27 ?_
    refine wt_iload hE wp_md_six_d30 rfl ?_
    refine wt_imul hE wp_md_six_d32 ?_
    refine wt_iload hE wp_md_six_d33 rfl ?_
    refine wt_iadd hE wp_md_six_d35 ?_
    refine wt_wk [false, false, false, false, false, true, false] rfl ?_
    exact wp_md_six_B36_ok hE hR h
  · have h := wt_ip c1 h
    refine wt_iload hE wp_md_six_d23 rfl ?_
    refine wt_goto hE 36 wp_md_six_d25 rfl ?_
    refine wt_wk [false, false, false, false, false, true, false] rfl ?_
    exact wp_md_six_B36_ok hE hR h
def wb15m5_prog_13_method_21_code_r13 : List (List Nat) := [120, 128, 79, 42, 16, 59, 182, 0, 223, 177] :: []
def wb15m5_prog_13_method_21_code_r12 : List (List Nat) := [182, 0, 219, 62, 42, 3, 6, 182, 0, 219, 54, 4, 42, 180, 0, 167, 154, 0, 16, 42, 180, 0, 41, 29, 92, 46, 4, 21, 4] :: wb15m5_prog_13_method_21_code_r13
def wb15m5_prog_13_method_21_code_r11 : List (List Nat) := [62, 42, 182, 0, 216, 54, 4, 42, 180, 0, 167, 154, 0, 11, 42, 180, 0, 35, 29, 21, 4, 79, 167, 0, 38, 42, 3, 6] :: wb15m5_prog_13_method_21_code_r12
def wb15m5_prog_13_method_21_code_r10 : List (List Nat) := [28, 6, 160, 0, 17, 42, 42, 3, 16, 99, 182, 0, 219, 181, 0, 199, 167, 0, 72, 28, 7, 160, 0, 32, 42, 182, 0, 216] :: wb15m5_prog_13_method_21_code_r11
def wb15m5_prog_13_method_21_code_r9 : List (List Nat) := [62, 42, 3, 16, 99, 182, 0, 219, 54, 4, 42, 180, 0, 167, 154, 0, 11, 42, 180, 0, 29, 29, 21, 4, 79, 167, 0, 91] :: wb15m5_prog_13_method_21_code_r10
def wb15m5_prog_13_method_21_code_r8 : List (List Nat) := [28, 154, 0, 10, 42, 180, 0, 47, 167, 0, 7, 42, 180, 0, 53, 182, 0, 212, 167, 0, 128, 28, 5, 160, 0, 35, 42, 182, 0, 216] :: wb15m5_prog_13_method_21_code_r9
def wb15m5_prog_13_method_21_code_r7 : List (List Nat) := [89, 180, 0, 196, 4, 96, 181, 0, 196, 28, 5, 162, 0, 40, 42, 28, 154, 0, 10, 42, 180, 0, 17, 167, 0, 7, 42, 180, 0, 23] :: wb15m5_prog_13_method_21_code_r8
def wb15m5_prog_13_method_21_code_r6 : List (List Nat) := [42, 6, 27, 182, 0, 180, 42, 180, 0, 167, 153, 0, 4, 177, 42, 89, 180, 0, 160, 42, 182, 0, 192, 96, 181, 0, 160, 42] :: wb15m5_prog_13_method_21_code_r7
def wb15m5_prog_13_method_21_code_r5 : List (List Nat) := [8, 167, 0, 4, 2, 61, 28, 2, 160, 0, 12, 42, 4, 27, 182, 0, 180, 167, 0, 18, 42, 180, 0, 196, 16, 60, 160, 0, 9] :: wb15m5_prog_13_method_21_code_r6
def wb15m5_prog_13_method_21_code_r4 : List (List Nat) := [153, 0, 7, 7, 167, 0, 30, 42, 16, 6, 16, 15, 16, 12, 16, 12, 16, 15, 16, 23, 184, 0, 205, 182, 0, 209, 153, 0, 7] :: wb15m5_prog_13_method_21_code_r5
def wb15m5_prog_13_method_21_code_r3 : List (List Nat) := [3, 184, 0, 205, 182, 0, 209, 153, 0, 7, 6, 167, 0, 53, 42, 16, 12, 16, 9, 16, 11, 8, 3, 3, 184, 0, 205, 182, 0, 209] :: wb15m5_prog_13_method_21_code_r4
def wb15m5_prog_13_method_21_code_r2 : List (List Nat) := [16, 9, 6, 8, 3, 184, 0, 205, 182, 0, 209, 153, 0, 7, 5, 167, 0, 77, 42, 16, 6, 4, 16, 9, 16, 14, 16, 20] :: wb15m5_prog_13_method_21_code_r3
def wb15m5_prog_13_method_21_code_r1 : List (List Nat) := [42, 16, 20, 16, 8, 8, 16, 18, 8, 3, 184, 0, 205, 182, 0, 209, 153, 0, 7, 4, 167, 0, 100, 42, 16, 16, 16, 18] :: wb15m5_prog_13_method_21_code_r2
def wb15m5_prog_13_method_21_code_r0 : List (List Nat) := [42, 180, 0, 160, 60, 42, 16, 12, 8, 16, 20, 16, 20, 8, 16, 18, 184, 0, 205, 182, 0, 209, 153, 0, 7, 3, 167, 0, 123] :: wb15m5_prog_13_method_21_code_r1
set_option maxRecDepth 100000 in
theorem wb15m5_prog_13_method_21_code_c0 : wt_cs prog_13_method_21_code 0 wb15m5_prog_13_method_21_code_r0 := wt_cs_of (by decide +kernel)
theorem wb15m5_prog_13_method_21_code_c1 : wt_cs prog_13_method_21_code 29 wb15m5_prog_13_method_21_code_r1 := wt_cs_tl (m := 29) wb15m5_prog_13_method_21_code_c0 rfl rfl
theorem wb15m5_prog_13_method_21_code_c2 : wt_cs prog_13_method_21_code 57 wb15m5_prog_13_method_21_code_r2 := wt_cs_tl (m := 28) wb15m5_prog_13_method_21_code_c1 rfl rfl
theorem wb15m5_prog_13_method_21_code_c3 : wt_cs prog_13_method_21_code 85 wb15m5_prog_13_method_21_code_r3 := wt_cs_tl (m := 28) wb15m5_prog_13_method_21_code_c2 rfl rfl
theorem wb15m5_prog_13_method_21_code_c4 : wt_cs prog_13_method_21_code 115 wb15m5_prog_13_method_21_code_r4 := wt_cs_tl (m := 30) wb15m5_prog_13_method_21_code_c3 rfl rfl
theorem wb15m5_prog_13_method_21_code_c5 : wt_cs prog_13_method_21_code 144 wb15m5_prog_13_method_21_code_r5 := wt_cs_tl (m := 29) wb15m5_prog_13_method_21_code_c4 rfl rfl
theorem wb15m5_prog_13_method_21_code_c6 : wt_cs prog_13_method_21_code 173 wb15m5_prog_13_method_21_code_r6 := wt_cs_tl (m := 29) wb15m5_prog_13_method_21_code_c5 rfl rfl
theorem wb15m5_prog_13_method_21_code_c7 : wt_cs prog_13_method_21_code 201 wb15m5_prog_13_method_21_code_r7 := wt_cs_tl (m := 28) wb15m5_prog_13_method_21_code_c6 rfl rfl
theorem wb15m5_prog_13_method_21_code_c8 : wt_cs prog_13_method_21_code 231 wb15m5_prog_13_method_21_code_r8 := wt_cs_tl (m := 30) wb15m5_prog_13_method_21_code_c7 rfl rfl
theorem wb15m5_prog_13_method_21_code_c9 : wt_cs prog_13_method_21_code 261 wb15m5_prog_13_method_21_code_r9 := wt_cs_tl (m := 30) wb15m5_prog_13_method_21_code_c8 rfl rfl
theorem wb15m5_prog_13_method_21_code_c10 : wt_cs prog_13_method_21_code 289 wb15m5_prog_13_method_21_code_r10 := wt_cs_tl (m := 28) wb15m5_prog_13_method_21_code_c9 rfl rfl
theorem wb15m5_prog_13_method_21_code_c11 : wt_cs prog_13_method_21_code 317 wb15m5_prog_13_method_21_code_r11 := wt_cs_tl (m := 28) wb15m5_prog_13_method_21_code_c10 rfl rfl
theorem wb15m5_prog_13_method_21_code_c12 : wt_cs prog_13_method_21_code 345 wb15m5_prog_13_method_21_code_r12 := wt_cs_tl (m := 28) wb15m5_prog_13_method_21_code_c11 rfl rfl
theorem wb15m5_prog_13_method_21_code_c13 : wt_cs prog_13_method_21_code 374 wb15m5_prog_13_method_21_code_r13 := wt_cs_tl (m := 29) wb15m5_prog_13_method_21_code_c12 rfl rfl
theorem wp_md_clause_d0 : decode prog_13_method_21_code 0 = .ok (.aload_n 0, 1) := wt_op42 wb15m5_prog_13_method_21_code_c0 0 rfl rfl
theorem wp_md_clause_d1 : decode prog_13_method_21_code 1 = .ok (.getfield 160, 3) := wt_op180 wb15m5_prog_13_method_21_code_c0 1 rfl rfl rfl
theorem wp_md_clause_d4 : decode prog_13_method_21_code 4 = .ok (.istore_n 1, 1) := wt_op60 wb15m5_prog_13_method_21_code_c0 4 rfl rfl
theorem wp_md_clause_d5 : decode prog_13_method_21_code 5 = .ok (.aload_n 0, 1) := wt_op42 wb15m5_prog_13_method_21_code_c0 5 rfl rfl
theorem wp_md_clause_d6 : decode prog_13_method_21_code 6 = .ok (.bipush 12, 2) := wt_op16 wb15m5_prog_13_method_21_code_c0 6 rfl rfl rfl
theorem wp_md_clause_d8 : decode prog_13_method_21_code 8 = .ok (.iconst 5, 1) := wt_op8 wb15m5_prog_13_method_21_code_c0 8 rfl rfl
theorem wp_md_clause_d9 : decode prog_13_method_21_code 9 = .ok (.bipush 20, 2) := wt_op16 wb15m5_prog_13_method_21_code_c0 9 rfl rfl rfl
theorem wp_md_clause_d11 : decode prog_13_method_21_code 11 = .ok (.bipush 20, 2) := wt_op16 wb15m5_prog_13_method_21_code_c0 11 rfl rfl rfl
theorem wp_md_clause_d13 : decode prog_13_method_21_code 13 = .ok (.iconst 5, 1) := wt_op8 wb15m5_prog_13_method_21_code_c0 13 rfl rfl
theorem wp_md_clause_d14 : decode prog_13_method_21_code 14 = .ok (.bipush 18, 2) := wt_op16 wb15m5_prog_13_method_21_code_c0 14 rfl rfl rfl
theorem wp_md_clause_d16 : decode prog_13_method_21_code 16 = .ok (.invokestatic 205, 3) := wt_op184 wb15m5_prog_13_method_21_code_c0 16 rfl rfl rfl
theorem wp_md_clause_d19 : decode prog_13_method_21_code 19 = .ok (.invokevirtual 209, 3) := wt_op182 wb15m5_prog_13_method_21_code_c0 19 rfl rfl rfl
theorem wp_md_clause_d22 : decode prog_13_method_21_code 22 = .ok (.ifCond .eq 7, 3) := wt_op153 wb15m5_prog_13_method_21_code_c0 22 rfl rfl rfl
theorem wp_md_clause_d25 : decode prog_13_method_21_code 25 = .ok (.iconst 0, 1) := wt_op3 wb15m5_prog_13_method_21_code_c0 25 rfl rfl
theorem wp_md_clause_d26 : decode prog_13_method_21_code 26 = .ok (.goto 123, 3) := wt_op167 wb15m5_prog_13_method_21_code_c0 26 rfl rfl rfl
theorem wp_md_clause_d29 : decode prog_13_method_21_code 29 = .ok (.aload_n 0, 1) := wt_op42 wb15m5_prog_13_method_21_code_c1 0 rfl rfl
theorem wp_md_clause_d30 : decode prog_13_method_21_code 30 = .ok (.bipush 20, 2) := wt_op16 wb15m5_prog_13_method_21_code_c1 1 rfl rfl rfl
theorem wp_md_clause_d32 : decode prog_13_method_21_code 32 = .ok (.bipush 8, 2) := wt_op16 wb15m5_prog_13_method_21_code_c1 3 rfl rfl rfl
theorem wp_md_clause_d34 : decode prog_13_method_21_code 34 = .ok (.iconst 5, 1) := wt_op8 wb15m5_prog_13_method_21_code_c1 5 rfl rfl
theorem wp_md_clause_d35 : decode prog_13_method_21_code 35 = .ok (.bipush 18, 2) := wt_op16 wb15m5_prog_13_method_21_code_c1 6 rfl rfl rfl
theorem wp_md_clause_d37 : decode prog_13_method_21_code 37 = .ok (.iconst 5, 1) := wt_op8 wb15m5_prog_13_method_21_code_c1 8 rfl rfl
theorem wp_md_clause_d38 : decode prog_13_method_21_code 38 = .ok (.iconst 0, 1) := wt_op3 wb15m5_prog_13_method_21_code_c1 9 rfl rfl
theorem wp_md_clause_d39 : decode prog_13_method_21_code 39 = .ok (.invokestatic 205, 3) := wt_op184 wb15m5_prog_13_method_21_code_c1 10 rfl rfl rfl
theorem wp_md_clause_d42 : decode prog_13_method_21_code 42 = .ok (.invokevirtual 209, 3) := wt_op182 wb15m5_prog_13_method_21_code_c1 13 rfl rfl rfl
theorem wp_md_clause_d45 : decode prog_13_method_21_code 45 = .ok (.ifCond .eq 7, 3) := wt_op153 wb15m5_prog_13_method_21_code_c1 16 rfl rfl rfl
theorem wp_md_clause_d48 : decode prog_13_method_21_code 48 = .ok (.iconst 1, 1) := wt_op4 wb15m5_prog_13_method_21_code_c1 19 rfl rfl
theorem wp_md_clause_d49 : decode prog_13_method_21_code 49 = .ok (.goto 100, 3) := wt_op167 wb15m5_prog_13_method_21_code_c1 20 rfl rfl rfl
theorem wp_md_clause_d52 : decode prog_13_method_21_code 52 = .ok (.aload_n 0, 1) := wt_op42 wb15m5_prog_13_method_21_code_c1 23 rfl rfl
theorem wp_md_clause_d53 : decode prog_13_method_21_code 53 = .ok (.bipush 16, 2) := wt_op16 wb15m5_prog_13_method_21_code_c1 24 rfl rfl rfl
theorem wp_md_clause_d55 : decode prog_13_method_21_code 55 = .ok (.bipush 18, 2) := wt_op16 wb15m5_prog_13_method_21_code_c1 26 rfl rfl rfl
theorem wp_md_clause_d57 : decode prog_13_method_21_code 57 = .ok (.bipush 9, 2) := wt_op16 wb15m5_prog_13_method_21_code_c2 0 rfl rfl rfl
theorem wp_md_clause_d59 : decode prog_13_method_21_code 59 = .ok (.iconst 3, 1) := wt_op6 wb15m5_prog_13_method_21_code_c2 2 rfl rfl
theorem wp_md_clause_d60 : decode prog_13_method_21_code 60 = .ok (.iconst 5, 1) := wt_op8 wb15m5_prog_13_method_21_code_c2 3 rfl rfl
theorem wp_md_clause_d61 : decode prog_13_method_21_code 61 = .ok (.iconst 0, 1) := wt_op3 wb15m5_prog_13_method_21_code_c2 4 rfl rfl
theorem wp_md_clause_d62 : decode prog_13_method_21_code 62 = .ok (.invokestatic 205, 3) := wt_op184 wb15m5_prog_13_method_21_code_c2 5 rfl rfl rfl
theorem wp_md_clause_d65 : decode prog_13_method_21_code 65 = .ok (.invokevirtual 209, 3) := wt_op182 wb15m5_prog_13_method_21_code_c2 8 rfl rfl rfl
theorem wp_md_clause_d68 : decode prog_13_method_21_code 68 = .ok (.ifCond .eq 7, 3) := wt_op153 wb15m5_prog_13_method_21_code_c2 11 rfl rfl rfl
theorem wp_md_clause_d71 : decode prog_13_method_21_code 71 = .ok (.iconst 2, 1) := wt_op5 wb15m5_prog_13_method_21_code_c2 14 rfl rfl
theorem wp_md_clause_d72 : decode prog_13_method_21_code 72 = .ok (.goto 77, 3) := wt_op167 wb15m5_prog_13_method_21_code_c2 15 rfl rfl rfl
theorem wp_md_clause_d75 : decode prog_13_method_21_code 75 = .ok (.aload_n 0, 1) := wt_op42 wb15m5_prog_13_method_21_code_c2 18 rfl rfl
theorem wp_md_clause_d76 : decode prog_13_method_21_code 76 = .ok (.bipush 6, 2) := wt_op16 wb15m5_prog_13_method_21_code_c2 19 rfl rfl rfl
theorem wp_md_clause_d78 : decode prog_13_method_21_code 78 = .ok (.iconst 1, 1) := wt_op4 wb15m5_prog_13_method_21_code_c2 21 rfl rfl
theorem wp_md_clause_d79 : decode prog_13_method_21_code 79 = .ok (.bipush 9, 2) := wt_op16 wb15m5_prog_13_method_21_code_c2 22 rfl rfl rfl
theorem wp_md_clause_d81 : decode prog_13_method_21_code 81 = .ok (.bipush 14, 2) := wt_op16 wb15m5_prog_13_method_21_code_c2 24 rfl rfl rfl
theorem wp_md_clause_d83 : decode prog_13_method_21_code 83 = .ok (.bipush 20, 2) := wt_op16 wb15m5_prog_13_method_21_code_c2 26 rfl rfl rfl
theorem wp_md_clause_d85 : decode prog_13_method_21_code 85 = .ok (.iconst 0, 1) := wt_op3 wb15m5_prog_13_method_21_code_c3 0 rfl rfl
theorem wp_md_clause_d86 : decode prog_13_method_21_code 86 = .ok (.invokestatic 205, 3) := wt_op184 wb15m5_prog_13_method_21_code_c3 1 rfl rfl rfl
theorem wp_md_clause_d89 : decode prog_13_method_21_code 89 = .ok (.invokevirtual 209, 3) := wt_op182 wb15m5_prog_13_method_21_code_c3 4 rfl rfl rfl
theorem wp_md_clause_d92 : decode prog_13_method_21_code 92 = .ok (.ifCond .eq 7, 3) := wt_op153 wb15m5_prog_13_method_21_code_c3 7 rfl rfl rfl
theorem wp_md_clause_d95 : decode prog_13_method_21_code 95 = .ok (.iconst 3, 1) := wt_op6 wb15m5_prog_13_method_21_code_c3 10 rfl rfl
theorem wp_md_clause_d96 : decode prog_13_method_21_code 96 = .ok (.goto 53, 3) := wt_op167 wb15m5_prog_13_method_21_code_c3 11 rfl rfl rfl
theorem wp_md_clause_d99 : decode prog_13_method_21_code 99 = .ok (.aload_n 0, 1) := wt_op42 wb15m5_prog_13_method_21_code_c3 14 rfl rfl
theorem wp_md_clause_d100 : decode prog_13_method_21_code 100 = .ok (.bipush 12, 2) := wt_op16 wb15m5_prog_13_method_21_code_c3 15 rfl rfl rfl
theorem wp_md_clause_d102 : decode prog_13_method_21_code 102 = .ok (.bipush 9, 2) := wt_op16 wb15m5_prog_13_method_21_code_c3 17 rfl rfl rfl
theorem wp_md_clause_d104 : decode prog_13_method_21_code 104 = .ok (.bipush 11, 2) := wt_op16 wb15m5_prog_13_method_21_code_c3 19 rfl rfl rfl
theorem wp_md_clause_d106 : decode prog_13_method_21_code 106 = .ok (.iconst 5, 1) := wt_op8 wb15m5_prog_13_method_21_code_c3 21 rfl rfl
theorem wp_md_clause_d107 : decode prog_13_method_21_code 107 = .ok (.iconst 0, 1) := wt_op3 wb15m5_prog_13_method_21_code_c3 22 rfl rfl
theorem wp_md_clause_d108 : decode prog_13_method_21_code 108 = .ok (.iconst 0, 1) := wt_op3 wb15m5_prog_13_method_21_code_c3 23 rfl rfl
theorem wp_md_clause_d109 : decode prog_13_method_21_code 109 = .ok (.invokestatic 205, 3) := wt_op184 wb15m5_prog_13_method_21_code_c3 24 rfl rfl rfl
theorem wp_md_clause_d112 : decode prog_13_method_21_code 112 = .ok (.invokevirtual 209, 3) := wt_op182 wb15m5_prog_13_method_21_code_c3 27 rfl rfl rfl
theorem wp_md_clause_d115 : decode prog_13_method_21_code 115 = .ok (.ifCond .eq 7, 3) := wt_op153 wb15m5_prog_13_method_21_code_c4 0 rfl rfl rfl
theorem wp_md_clause_d118 : decode prog_13_method_21_code 118 = .ok (.iconst 4, 1) := wt_op7 wb15m5_prog_13_method_21_code_c4 3 rfl rfl
theorem wp_md_clause_d119 : decode prog_13_method_21_code 119 = .ok (.goto 30, 3) := wt_op167 wb15m5_prog_13_method_21_code_c4 4 rfl rfl rfl
theorem wp_md_clause_d122 : decode prog_13_method_21_code 122 = .ok (.aload_n 0, 1) := wt_op42 wb15m5_prog_13_method_21_code_c4 7 rfl rfl
theorem wp_md_clause_d123 : decode prog_13_method_21_code 123 = .ok (.bipush 6, 2) := wt_op16 wb15m5_prog_13_method_21_code_c4 8 rfl rfl rfl
theorem wp_md_clause_d125 : decode prog_13_method_21_code 125 = .ok (.bipush 15, 2) := wt_op16 wb15m5_prog_13_method_21_code_c4 10 rfl rfl rfl
theorem wp_md_clause_d127 : decode prog_13_method_21_code 127 = .ok (.bipush 12, 2) := wt_op16 wb15m5_prog_13_method_21_code_c4 12 rfl rfl rfl
theorem wp_md_clause_d129 : decode prog_13_method_21_code 129 = .ok (.bipush 12, 2) := wt_op16 wb15m5_prog_13_method_21_code_c4 14 rfl rfl rfl
theorem wp_md_clause_d131 : decode prog_13_method_21_code 131 = .ok (.bipush 15, 2) := wt_op16 wb15m5_prog_13_method_21_code_c4 16 rfl rfl rfl
theorem wp_md_clause_d133 : decode prog_13_method_21_code 133 = .ok (.bipush 23, 2) := wt_op16 wb15m5_prog_13_method_21_code_c4 18 rfl rfl rfl
theorem wp_md_clause_d135 : decode prog_13_method_21_code 135 = .ok (.invokestatic 205, 3) := wt_op184 wb15m5_prog_13_method_21_code_c4 20 rfl rfl rfl
theorem wp_md_clause_d138 : decode prog_13_method_21_code 138 = .ok (.invokevirtual 209, 3) := wt_op182 wb15m5_prog_13_method_21_code_c4 23 rfl rfl rfl
theorem wp_md_clause_d141 : decode prog_13_method_21_code 141 = .ok (.ifCond .eq 7, 3) := wt_op153 wb15m5_prog_13_method_21_code_c4 26 rfl rfl rfl
theorem wp_md_clause_d144 : decode prog_13_method_21_code 144 = .ok (.iconst 5, 1) := wt_op8 wb15m5_prog_13_method_21_code_c5 0 rfl rfl
theorem wp_md_clause_d145 : decode prog_13_method_21_code 145 = .ok (.goto 4, 3) := wt_op167 wb15m5_prog_13_method_21_code_c5 1 rfl rfl rfl
theorem wp_md_clause_d148 : decode prog_13_method_21_code 148 = .ok (.iconst (-1), 1) := wt_op2 wb15m5_prog_13_method_21_code_c5 4 rfl rfl
theorem wp_md_clause_d149 : decode prog_13_method_21_code 149 = .ok (.istore_n 2, 1) := wt_op61 wb15m5_prog_13_method_21_code_c5 5 rfl rfl
theorem wp_md_clause_d150 : decode prog_13_method_21_code 150 = .ok (.iload_n 2, 1) := wt_op28 wb15m5_prog_13_method_21_code_c5 6 rfl rfl
theorem wp_md_clause_d151 : decode prog_13_method_21_code 151 = .ok (.iconst (-1), 1) := wt_op2 wb15m5_prog_13_method_21_code_c5 7 rfl rfl
theorem wp_md_clause_d152 : decode prog_13_method_21_code 152 = .ok (.if_icmp .ne 12, 3) := wt_op160 wb15m5_prog_13_method_21_code_c5 8 rfl rfl rfl
theorem wp_md_clause_d155 : decode prog_13_method_21_code 155 = .ok (.aload_n 0, 1) := wt_op42 wb15m5_prog_13_method_21_code_c5 11 rfl rfl
theorem wp_md_clause_d156 : decode prog_13_method_21_code 156 = .ok (.iconst 1, 1) := wt_op4 wb15m5_prog_13_method_21_code_c5 12 rfl rfl
theorem wp_md_clause_d157 : decode prog_13_method_21_code 157 = .ok (.iload_n 1, 1) := wt_op27 wb15m5_prog_13_method_21_code_c5 13 rfl rfl
theorem wp_md_clause_d158 : decode prog_13_method_21_code 158 = .ok (.invokevirtual 180, 3) := wt_op182 wb15m5_prog_13_method_21_code_c5 14 rfl rfl rfl
theorem wp_md_clause_d161 : decode prog_13_method_21_code 161 = .ok (.goto 18, 3) := wt_op167 wb15m5_prog_13_method_21_code_c5 17 rfl rfl rfl
theorem wp_md_clause_d164 : decode prog_13_method_21_code 164 = .ok (.aload_n 0, 1) := wt_op42 wb15m5_prog_13_method_21_code_c5 20 rfl rfl
theorem wp_md_clause_d165 : decode prog_13_method_21_code 165 = .ok (.getfield 196, 3) := wt_op180 wb15m5_prog_13_method_21_code_c5 21 rfl rfl rfl
theorem wp_md_clause_d168 : decode prog_13_method_21_code 168 = .ok (.bipush 60, 2) := wt_op16 wb15m5_prog_13_method_21_code_c5 24 rfl rfl rfl
theorem wp_md_clause_d170 : decode prog_13_method_21_code 170 = .ok (.if_icmp .ne 9, 3) := wt_op160 wb15m5_prog_13_method_21_code_c5 26 rfl rfl rfl
theorem wp_md_clause_d173 : decode prog_13_method_21_code 173 = .ok (.aload_n 0, 1) := wt_op42 wb15m5_prog_13_method_21_code_c6 0 rfl rfl
theorem wp_md_clause_d174 : decode prog_13_method_21_code 174 = .ok (.iconst 3, 1) := wt_op6 wb15m5_prog_13_method_21_code_c6 1 rfl rfl
theorem wp_md_clause_d175 : decode prog_13_method_21_code 175 = .ok (.iload_n 1, 1) := wt_op27 wb15m5_prog_13_method_21_code_c6 2 rfl rfl
theorem wp_md_clause_d176 : decode prog_13_method_21_code 176 = .ok (.invokevirtual 180, 3) := wt_op182 wb15m5_prog_13_method_21_code_c6 3 rfl rfl rfl
theorem wp_md_clause_d179 : decode prog_13_method_21_code 179 = .ok (.aload_n 0, 1) := wt_op42 wb15m5_prog_13_method_21_code_c6 6 rfl rfl
theorem wp_md_clause_d180 : decode prog_13_method_21_code 180 = .ok (.getfield 167, 3) := wt_op180 wb15m5_prog_13_method_21_code_c6 7 rfl rfl rfl
theorem wp_md_clause_d183 : decode prog_13_method_21_code 183 = .ok (.ifCond .eq 4, 3) := wt_op153 wb15m5_prog_13_method_21_code_c6 10 rfl rfl rfl
theorem wp_md_clause_d186 : decode prog_13_method_21_code 186 = .ok (.return_, 1) := wt_op177 wb15m5_prog_13_method_21_code_c6 13 rfl rfl
theorem wp_md_clause_d187 : decode prog_13_method_21_code 187 = .ok (.aload_n 0, 1) := wt_op42 wb15m5_prog_13_method_21_code_c6 14 rfl rfl
theorem wp_md_clause_d188 : decode prog_13_method_21_code 188 = .ok (.dup, 1) := wt_op89 wb15m5_prog_13_method_21_code_c6 15 rfl rfl
theorem wp_md_clause_d189 : decode prog_13_method_21_code 189 = .ok (.getfield 160, 3) := wt_op180 wb15m5_prog_13_method_21_code_c6 16 rfl rfl rfl
theorem wp_md_clause_d192 : decode prog_13_method_21_code 192 = .ok (.aload_n 0, 1) := wt_op42 wb15m5_prog_13_method_21_code_c6 19 rfl rfl
theorem wp_md_clause_d193 : decode prog_13_method_21_code 193 = .ok (.invokevirtual 192, 3) := wt_op182 wb15m5_prog_13_method_21_code_c6 20 rfl rfl rfl
theorem wp_md_clause_d196 : decode prog_13_method_21_code 196 = .ok (.iadd, 1) := wt_op96 wb15m5_prog_13_method_21_code_c6 23 rfl rfl
theorem wp_md_clause_d197 : decode prog_13_method_21_code 197 = .ok (.putfield 160, 3) := wt_op181 wb15m5_prog_13_method_21_code_c6 24 rfl rfl rfl
theorem wp_md_clause_d200 : decode prog_13_method_21_code 200 = .ok (.aload_n 0, 1) := wt_op42 wb15m5_prog_13_method_21_code_c6 27 rfl rfl
theorem wp_md_clause_d201 : decode prog_13_method_21_code 201 = .ok (.dup, 1) := wt_op89 wb15m5_prog_13_method_21_code_c7 0 rfl rfl
theorem wp_md_clause_d202 : decode prog_13_method_21_code 202 = .ok (.getfield 196, 3) := wt_op180 wb15m5_prog_13_method_21_code_c7 1 rfl rfl rfl
theorem wp_md_clause_d205 : decode prog_13_method_21_code 205 = .ok (.iconst 1, 1) := wt_op4 wb15m5_prog_13_method_21_code_c7 4 rfl rfl
theorem wp_md_clause_d206 : decode prog_13_method_21_code 206 = .ok (.iadd, 1) := wt_op96 wb15m5_prog_13_method_21_code_c7 5 rfl rfl
theorem wp_md_clause_d207 : decode prog_13_method_21_code 207 = .ok (.putfield 196, 3) := wt_op181 wb15m5_prog_13_method_21_code_c7 6 rfl rfl rfl
theorem wp_md_clause_d210 : decode prog_13_method_21_code 210 = .ok (.iload_n 2, 1) := wt_op28 wb15m5_prog_13_method_21_code_c7 9 rfl rfl
theorem wp_md_clause_d211 : decode prog_13_method_21_code 211 = .ok (.iconst 2, 1) := wt_op5 wb15m5_prog_13_method_21_code_c7 10 rfl rfl
theorem wp_md_clause_d212 : decode prog_13_method_21_code 212 = .ok (.if_icmp .ge 40, 3) := wt_op162 wb15m5_prog_13_method_21_code_c7 11 rfl rfl rfl
theorem wp_md_clause_d215 : decode prog_13_method_21_code 215 = .ok (.aload_n 0, 1) := wt_op42 wb15m5_prog_13_method_21_code_c7 14 rfl rfl
theorem wp_md_clause_d216 : decode prog_13_method_21_code 216 = .ok (.iload_n 2, 1) := wt_op28 wb15m5_prog_13_method_21_code_c7 15 rfl rfl
theorem wp_md_clause_d217 : decode prog_13_method_21_code 217 = .ok (.ifCond .ne 10, 3) := wt_op154 wb15m5_prog_13_method_21_code_c7 16 rfl rfl rfl
theorem wp_md_clause_d220 : decode prog_13_method_21_code 220 = .ok (.aload_n 0, 1) := wt_op42 wb15m5_prog_13_method_21_code_c7 19 rfl rfl
theorem wp_md_clause_d221 : decode prog_13_method_21_code 221 = .ok (.getfield 17, 3) := wt_op180 wb15m5_prog_13_method_21_code_c7 20 rfl rfl rfl
theorem wp_md_clause_d224 : decode prog_13_method_21_code 224 = .ok (.goto 7, 3) := wt_op167 wb15m5_prog_13_method_21_code_c7 23 rfl rfl rfl
theorem wp_md_clause_d227 : decode prog_13_method_21_code 227 = .ok (.aload_n 0, 1) := wt_op42 wb15m5_prog_13_method_21_code_c7 26 rfl rfl
theorem wp_md_clause_d228 : decode prog_13_method_21_code 228 = .ok (.getfield 23, 3) := wt_op180 wb15m5_prog_13_method_21_code_c7 27 rfl rfl rfl
theorem wp_md_clause_d231 : decode prog_13_method_21_code 231 = .ok (.iload_n 2, 1) := wt_op28 wb15m5_prog_13_method_21_code_c8 0 rfl rfl
theorem wp_md_clause_d232 : decode prog_13_method_21_code 232 = .ok (.ifCond .ne 10, 3) := wt_op154 wb15m5_prog_13_method_21_code_c8 1 rfl rfl rfl
theorem wp_md_clause_d235 : decode prog_13_method_21_code 235 = .ok (.aload_n 0, 1) := wt_op42 wb15m5_prog_13_method_21_code_c8 4 rfl rfl
theorem wp_md_clause_d236 : decode prog_13_method_21_code 236 = .ok (.getfield 47, 3) := wt_op180 wb15m5_prog_13_method_21_code_c8 5 rfl rfl rfl
theorem wp_md_clause_d239 : decode prog_13_method_21_code 239 = .ok (.goto 7, 3) := wt_op167 wb15m5_prog_13_method_21_code_c8 8 rfl rfl rfl
theorem wp_md_clause_d242 : decode prog_13_method_21_code 242 = .ok (.aload_n 0, 1) := wt_op42 wb15m5_prog_13_method_21_code_c8 11 rfl rfl
theorem wp_md_clause_d243 : decode prog_13_method_21_code 243 = .ok (.getfield 53, 3) := wt_op180 wb15m5_prog_13_method_21_code_c8 12 rfl rfl rfl
theorem wp_md_clause_d246 : decode prog_13_method_21_code 246 = .ok (.invokevirtual 212, 3) := wt_op182 wb15m5_prog_13_method_21_code_c8 15 rfl rfl rfl
theorem wp_md_clause_d249 : decode prog_13_method_21_code 249 = .ok (.goto 128, 3) := wt_op167 wb15m5_prog_13_method_21_code_c8 18 rfl rfl rfl
theorem wp_md_clause_d252 : decode prog_13_method_21_code 252 = .ok (.iload_n 2, 1) := wt_op28 wb15m5_prog_13_method_21_code_c8 21 rfl rfl
theorem wp_md_clause_d253 : decode prog_13_method_21_code 253 = .ok (.iconst 2, 1) := wt_op5 wb15m5_prog_13_method_21_code_c8 22 rfl rfl
theorem wp_md_clause_d254 : decode prog_13_method_21_code 254 = .ok (.if_icmp .ne 35, 3) := wt_op160 wb15m5_prog_13_method_21_code_c8 23 rfl rfl rfl
theorem wp_md_clause_d257 : decode prog_13_method_21_code 257 = .ok (.aload_n 0, 1) := wt_op42 wb15m5_prog_13_method_21_code_c8 26 rfl rfl
theorem wp_md_clause_d258 : decode prog_13_method_21_code 258 = .ok (.invokevirtual 216, 3) := wt_op182 wb15m5_prog_13_method_21_code_c8 27 rfl rfl rfl
theorem wp_md_clause_d261 : decode prog_13_method_21_code 261 = .ok (.istore_n 3, 1) := wt_op62 wb15m5_prog_13_method_21_code_c9 0 rfl rfl
theorem wp_md_clause_d262 : decode prog_13_method_21_code 262 = .ok (.aload_n 0, 1) := wt_op42 wb15m5_prog_13_method_21_code_c9 1 rfl rfl
theorem wp_md_clause_d263 : decode prog_13_method_21_code 263 = .ok (.iconst 0, 1) := wt_op3 wb15m5_prog_13_method_21_code_c9 2 rfl rfl
theorem wp_md_clause_d264 : decode prog_13_method_21_code 264 = .ok (.bipush 99, 2) := wt_op16 wb15m5_prog_13_method_21_code_c9 3 rfl rfl rfl
theorem wp_md_clause_d266 : decode prog_13_method_21_code 266 = .ok (.invokevirtual 219, 3) := wt_op182 wb15m5_prog_13_method_21_code_c9 5 rfl rfl rfl
theorem wp_md_clause_d269 : decode prog_13_method_21_code 269 = .ok (.istore 4, 2) := wt_op54 wb15m5_prog_13_method_21_code_c9 8 rfl rfl
theorem wp_md_clause_d271 : decode prog_13_method_21_code 271 = .ok (.aload_n 0, 1) := wt_op42 wb15m5_prog_13_method_21_code_c9 10 rfl rfl
theorem wp_md_clause_d272 : decode prog_13_method_21_code 272 = .ok (.getfield 167, 3) := wt_op180 wb15m5_prog_13_method_21_code_c9 11 rfl rfl rfl
theorem wp_md_clause_d275 : decode prog_13_method_21_code 275 = .ok (.ifCond .ne 11, 3) := wt_op154 wb15m5_prog_13_method_21_code_c9 14 rfl rfl rfl
theorem wp_md_clause_d278 : decode prog_13_method_21_code 278 = .ok (.aload_n 0, 1) := wt_op42 wb15m5_prog_13_method_21_code_c9 17 rfl rfl
theorem wp_md_clause_d279 : decode prog_13_method_21_code 279 = .ok (.getfield 29, 3) := wt_op180 wb15m5_prog_13_method_21_code_c9 18 rfl rfl rfl
theorem wp_md_clause_d282 : decode prog_13_method_21_code 282 = .ok (.iload_n 3, 1) := wt_op29 wb15m5_prog_13_method_21_code_c9 21 rfl rfl
theorem wp_md_clause_d283 : decode prog_13_method_21_code 283 = .ok (.iload 4, 2) := wt_op21 wb15m5_prog_13_method_21_code_c9 22 rfl rfl
theorem wp_md_clause_d285 : decode prog_13_method_21_code 285 = .ok (.iastore, 1) := wt_op79 wb15m5_prog_13_method_21_code_c9 24 rfl rfl
theorem wp_md_clause_d286 : decode prog_13_method_21_code 286 = .ok (.goto 91, 3) := wt_op167 wb15m5_prog_13_method_21_code_c9 25 rfl rfl rfl
theorem wp_md_clause_d289 : decode prog_13_method_21_code 289 = .ok (.iload_n 2, 1) := wt_op28 wb15m5_prog_13_method_21_code_c10 0 rfl rfl
theorem wp_md_clause_d290 : decode prog_13_method_21_code 290 = .ok (.iconst 3, 1) := wt_op6 wb15m5_prog_13_method_21_code_c10 1 rfl rfl
theorem wp_md_clause_d291 : decode prog_13_method_21_code 291 = .ok (.if_icmp .ne 17, 3) := wt_op160 wb15m5_prog_13_method_21_code_c10 2 rfl rfl rfl
theorem wp_md_clause_d294 : decode prog_13_method_21_code 294 = .ok (.aload_n 0, 1) := wt_op42 wb15m5_prog_13_method_21_code_c10 5 rfl rfl
theorem wp_md_clause_d295 : decode prog_13_method_21_code 295 = .ok (.aload_n 0, 1) := wt_op42 wb15m5_prog_13_method_21_code_c10 6 rfl rfl
theorem wp_md_clause_d296 : decode prog_13_method_21_code 296 = .ok (.iconst 0, 1) := wt_op3 wb15m5_prog_13_method_21_code_c10 7 rfl rfl
theorem wp_md_clause_d297 : decode prog_13_method_21_code 297 = .ok (.bipush 99, 2) := wt_op16 wb15m5_prog_13_method_21_code_c10 8 rfl rfl rfl
theorem wp_md_clause_d299 : decode prog_13_method_21_code 299 = .ok (.invokevirtual 219, 3) := wt_op182 wb15m5_prog_13_method_21_code_c10 10 rfl rfl rfl
theorem wp_md_clause_d302 : decode prog_13_method_21_code 302 = .ok (.putfield 199, 3) := wt_op181 wb15m5_prog_13_method_21_code_c10 13 rfl rfl rfl
theorem wp_md_clause_d305 : decode prog_13_method_21_code 305 = .ok (.goto 72, 3) := wt_op167 wb15m5_prog_13_method_21_code_c10 16 rfl rfl rfl
theorem wp_md_clause_d308 : decode prog_13_method_21_code 308 = .ok (.iload_n 2, 1) := wt_op28 wb15m5_prog_13_method_21_code_c10 19 rfl rfl
theorem wp_md_clause_d309 : decode prog_13_method_21_code 309 = .ok (.iconst 4, 1) := wt_op7 wb15m5_prog_13_method_21_code_c10 20 rfl rfl
theorem wp_md_clause_d310 : decode prog_13_method_21_code 310 = .ok (.if_icmp .ne 32, 3) := wt_op160 wb15m5_prog_13_method_21_code_c10 21 rfl rfl rfl
theorem wp_md_clause_d313 : decode prog_13_method_21_code 313 = .ok (.aload_n 0, 1) := wt_op42 wb15m5_prog_13_method_21_code_c10 24 rfl rfl
theorem wp_md_clause_d314 : decode prog_13_method_21_code 314 = .ok (.invokevirtual 216, 3) := wt_op182 wb15m5_prog_13_method_21_code_c10 25 rfl rfl rfl
theorem wp_md_clause_d317 : decode prog_13_method_21_code 317 = .ok (.istore_n 3, 1) := wt_op62 wb15m5_prog_13_method_21_code_c11 0 rfl rfl
theorem wp_md_clause_d318 : decode prog_13_method_21_code 318 = .ok (.aload_n 0, 1) := wt_op42 wb15m5_prog_13_method_21_code_c11 1 rfl rfl
theorem wp_md_clause_d319 : decode prog_13_method_21_code 319 = .ok (.invokevirtual 216, 3) := wt_op182 wb15m5_prog_13_method_21_code_c11 2 rfl rfl rfl
theorem wp_md_clause_d322 : decode prog_13_method_21_code 322 = .ok (.istore 4, 2) := wt_op54 wb15m5_prog_13_method_21_code_c11 5 rfl rfl
theorem wp_md_clause_d324 : decode prog_13_method_21_code 324 = .ok (.aload_n 0, 1) := wt_op42 wb15m5_prog_13_method_21_code_c11 7 rfl rfl
theorem wp_md_clause_d325 : decode prog_13_method_21_code 325 = .ok (.getfield 167, 3) := wt_op180 wb15m5_prog_13_method_21_code_c11 8 rfl rfl rfl
theorem wp_md_clause_d328 : decode prog_13_method_21_code 328 = .ok (.ifCond .ne 11, 3) := wt_op154 wb15m5_prog_13_method_21_code_c11 11 rfl rfl rfl
theorem wp_md_clause_d331 : decode prog_13_method_21_code 331 = .ok (.aload_n 0, 1) := wt_op42 wb15m5_prog_13_method_21_code_c11 14 rfl rfl
theorem wp_md_clause_d332 : decode prog_13_method_21_code 332 = .ok (.getfield 35, 3) := wt_op180 wb15m5_prog_13_method_21_code_c11 15 rfl rfl rfl
theorem wp_md_clause_d335 : decode prog_13_method_21_code 335 = .ok (.iload_n 3, 1) := wt_op29 wb15m5_prog_13_method_21_code_c11 18 rfl rfl
theorem wp_md_clause_d336 : decode prog_13_method_21_code 336 = .ok (.iload 4, 2) := wt_op21 wb15m5_prog_13_method_21_code_c11 19 rfl rfl
theorem wp_md_clause_d338 : decode prog_13_method_21_code 338 = .ok (.iastore, 1) := wt_op79 wb15m5_prog_13_method_21_code_c11 21 rfl rfl
theorem wp_md_clause_d339 : decode prog_13_method_21_code 339 = .ok (.goto 38, 3) := wt_op167 wb15m5_prog_13_method_21_code_c11 22 rfl rfl rfl
theorem wp_md_clause_d342 : decode prog_13_method_21_code 342 = .ok (.aload_n 0, 1) := wt_op42 wb15m5_prog_13_method_21_code_c11 25 rfl rfl
theorem wp_md_clause_d343 : decode prog_13_method_21_code 343 = .ok (.iconst 0, 1) := wt_op3 wb15m5_prog_13_method_21_code_c11 26 rfl rfl
theorem wp_md_clause_d344 : decode prog_13_method_21_code 344 = .ok (.iconst 3, 1) := wt_op6 wb15m5_prog_13_method_21_code_c11 27 rfl rfl
theorem wp_md_clause_d345 : decode prog_13_method_21_code 345 = .ok (.invokevirtual 219, 3) := wt_op182 wb15m5_prog_13_method_21_code_c12 0 rfl rfl rfl
theorem wp_md_clause_d348 : decode prog_13_method_21_code 348 = .ok (.istore_n 3, 1) := wt_op62 wb15m5_prog_13_method_21_code_c12 3 rfl rfl
theorem wp_md_clause_d349 : decode prog_13_method_21_code 349 = .ok (.aload_n 0, 1) := wt_op42 wb15m5_prog_13_method_21_code_c12 4 rfl rfl
theorem wp_md_clause_d350 : decode prog_13_method_21_code 350 = .ok (.iconst 0, 1) := wt_op3 wb15m5_prog_13_method_21_code_c12 5 rfl rfl
theorem wp_md_clause_d351 : decode prog_13_method_21_code 351 = .ok (.iconst 3, 1) := wt_op6 wb15m5_prog_13_method_21_code_c12 6 rfl rfl
theorem wp_md_clause_d352 : decode prog_13_method_21_code 352 = .ok (.invokevirtual 219, 3) := wt_op182 wb15m5_prog_13_method_21_code_c12 7 rfl rfl rfl
theorem wp_md_clause_d355 : decode prog_13_method_21_code 355 = .ok (.istore 4, 2) := wt_op54 wb15m5_prog_13_method_21_code_c12 10 rfl rfl
theorem wp_md_clause_d357 : decode prog_13_method_21_code 357 = .ok (.aload_n 0, 1) := wt_op42 wb15m5_prog_13_method_21_code_c12 12 rfl rfl
theorem wp_md_clause_d358 : decode prog_13_method_21_code 358 = .ok (.getfield 167, 3) := wt_op180 wb15m5_prog_13_method_21_code_c12 13 rfl rfl rfl
theorem wp_md_clause_d361 : decode prog_13_method_21_code 361 = .ok (.ifCond .ne 16, 3) := wt_op154 wb15m5_prog_13_method_21_code_c12 16 rfl rfl rfl
theorem wp_md_clause_d364 : decode prog_13_method_21_code 364 = .ok (.aload_n 0, 1) := wt_op42 wb15m5_prog_13_method_21_code_c12 19 rfl rfl
theorem wp_md_clause_d365 : decode prog_13_method_21_code 365 = .ok (.getfield 41, 3) := wt_op180 wb15m5_prog_13_method_21_code_c12 20 rfl rfl rfl
theorem wp_md_clause_d368 : decode prog_13_method_21_code 368 = .ok (.iload_n 3, 1) := wt_op29 wb15m5_prog_13_method_21_code_c12 23 rfl rfl
theorem wp_md_clause_d369 : decode prog_13_method_21_code 369 = .ok (.dup2, 1) := wt_op92 wb15m5_prog_13_method_21_code_c12 24 rfl rfl
theorem wp_md_clause_d370 : decode prog_13_method_21_code 370 = .ok (.iaload, 1) := wt_op46 wb15m5_prog_13_method_21_code_c12 25 rfl rfl
theorem wp_md_clause_d371 : decode prog_13_method_21_code 371 = .ok (.iconst 1, 1) := wt_op4 wb15m5_prog_13_method_21_code_c12 26 rfl rfl
theorem wp_md_clause_d372 : decode prog_13_method_21_code 372 = .ok (.iload 4, 2) := wt_op21 wb15m5_prog_13_method_21_code_c12 27 rfl rfl
theorem wp_md_clause_d374 : decode prog_13_method_21_code 374 = .ok (.ishl, 1) := wt_op120 wb15m5_prog_13_method_21_code_c13 0 rfl rfl
theorem wp_md_clause_d375 : decode prog_13_method_21_code 375 = .ok (.ior, 1) := wt_op128 wb15m5_prog_13_method_21_code_c13 1 rfl rfl
theorem wp_md_clause_d376 : decode prog_13_method_21_code 376 = .ok (.iastore, 1) := wt_op79 wb15m5_prog_13_method_21_code_c13 2 rfl rfl
theorem wp_md_clause_d377 : decode prog_13_method_21_code 377 = .ok (.aload_n 0, 1) := wt_op42 wb15m5_prog_13_method_21_code_c13 3 rfl rfl
theorem wp_md_clause_d378 : decode prog_13_method_21_code 378 = .ok (.bipush 59, 2) := wt_op16 wb15m5_prog_13_method_21_code_c13 4 rfl rfl rfl
theorem wp_md_clause_d380 : decode prog_13_method_21_code 380 = .ok (.invokevirtual 223, 3) := wt_op182 wb15m5_prog_13_method_21_code_c13 6 rfl rfl rfl
theorem wp_md_clause_d383 : decode prog_13_method_21_code 383 = .ok (.return_, 1) := wt_op177 wb15m5_prog_13_method_21_code_c13 9 rfl rfl
noncomputable def wp_md_clause_B377 (n : Nat) (σ : wt_St) : Option (wt_St) :=
  (wp_md_closes n (59 : Int32) σ).bind fun q30 =>
  some q30
set_option maxRecDepth 100000 in
set_option maxHeartbeats 4000000 in
theorem wp_md_clause_B377_ok  {X : wt_X} {n : Nat} {res : wt_St} (hE : wt_Ok X prog_13_method_21_code 5 "WornTypeModel" 5 0) (hR : wt_Rt X none none res) (hD : ∀ i, 108 ≤ i → i < 321 → wt_dom (wt_xw X) i)  {σ : wt_St} (h : wp_md_clause_B377 n σ = some res) : wt_V X 0 σ 377 [some (.ref (wt_ad (wt_xw X) 108)), none, none, none, none] [] := by
  unfold wp_md_clause_B377 at h
  refine wt_aload_n hE wp_md_clause_d377 rfl ?_
  refine wt_bipush hE (59 : Int32) wp_md_clause_d378 wt_cb_59 ?_
  obtain ⟨q30, hq30, h⟩ := wt_bi h
  refine wt_callVv hE [.int (59 : Int32)] wt_lm_md_223 wt_ya_md_closes (wp_md_closes_ok hD hq30) (by omega) (hD 108 (by decide) (by decide)) wt_L108 rfl rfl rfl (Nat.le_of_ble_eq_true rfl) (Nat.zero_le _) wp_md_clause_d380 ?_
  cases h
  exact wt_vret hE hR wp_md_clause_d383
noncomputable def wp_md_clause_B339 (n : Nat) (σ : wt_St) : Option (wt_St) :=
  wp_md_clause_B377 n σ
set_option maxRecDepth 100000 in
set_option maxHeartbeats 4000000 in
theorem wp_md_clause_B339_ok  {X : wt_X} {n : Nat} {res : wt_St} (hE : wt_Ok X prog_13_method_21_code 5 "WornTypeModel" 5 0) (hR : wt_Rt X none none res) (hD : ∀ i, 108 ≤ i → i < 321 → wt_dom (wt_xw X) i)  {σ : wt_St} (h : wp_md_clause_B339 n σ = some res) : wt_V X 0 σ 339 [some (.ref (wt_ad (wt_xw X) 108)), none, none, none, none] [] := by
  unfold wp_md_clause_B339 at h
  refine wt_goto hE 377 wp_md_clause_d339 rfl ?_
  exact wp_md_clause_B377_ok hE hR hD h
noncomputable def wp_md_clause_B286 (n : Nat) (σ : wt_St) : Option (wt_St) :=
  wp_md_clause_B377 n σ
set_option maxRecDepth 100000 in
set_option maxHeartbeats 4000000 in
theorem wp_md_clause_B286_ok  {X : wt_X} {n : Nat} {res : wt_St} (hE : wt_Ok X prog_13_method_21_code 5 "WornTypeModel" 5 0) (hR : wt_Rt X none none res) (hD : ∀ i, 108 ≤ i → i < 321 → wt_dom (wt_xw X) i)  {σ : wt_St} (h : wp_md_clause_B286 n σ = some res) : wt_V X 0 σ 286 [some (.ref (wt_ad (wt_xw X) 108)), none, none, none, none] [] := by
  unfold wp_md_clause_B286 at h
  refine wt_goto hE 377 wp_md_clause_d286 rfl ?_
  exact wp_md_clause_B377_ok hE hR hD h
noncomputable def wp_md_clause_B246 (n : Nat) (e1 : Nat) (e2 : Nat) (σ : wt_St) : Option (wt_St) :=
  (wp_md_pieces n e1 e2 σ).bind fun q44 =>
  wp_md_clause_B377 n q44
set_option maxRecDepth 100000 in
set_option maxHeartbeats 4000000 in
theorem wp_md_clause_B246_ok  {e1 : Nat} {e2 : Nat} {X : wt_X} {n : Nat} {res : wt_St} (hE : wt_Ok X prog_13_method_21_code 5 "WornTypeModel" 5 0) (hR : wt_Rt X none none res) (hD : ∀ i, 108 ≤ i → i < 321 → wt_dom (wt_xw X) i)  (hA_e1 : wt_LAY[e1]? = some (0, 26, [])) (hd_e1 : wt_dom (wt_xw X) e1) (hA_e2 : wt_LAY[e2]? = some (0, 338, [])) (hd_e2 : wt_dom (wt_xw X) e2) {σ : wt_St} (h : wp_md_clause_B246 n e1 e2 σ = some res) : wt_V X 0 σ 246 [some (.ref (wt_ad (wt_xw X) 108)), none, none, none, none] [.ref (wt_ad (wt_xw X) e2), .ref (wt_ad (wt_xw X) e1), .ref (wt_ad (wt_xw X) 108)] := by
  unfold wp_md_clause_B246 at h
  obtain ⟨q44, hq44, h⟩ := wt_bi h
  refine wt_callVv hE [.ref (wt_ad (wt_xw X) e1), .ref (wt_ad (wt_xw X) e2)] wt_lm_md_212 wt_ya_md_pieces (wp_md_pieces_ok hD (wt_lnE hA_e1) hd_e1 (wt_lnE hA_e2) hd_e2 hq44) (by omega) (hD 108 (by decide) (by decide)) wt_L108 rfl rfl rfl (Nat.le_of_ble_eq_true rfl) (Nat.zero_le _) wp_md_clause_d246 ?_
  refine wt_goto hE 377 wp_md_clause_d249 rfl ?_
  exact wp_md_clause_B377_ok hE hR hD h
noncomputable def wp_md_clause_B231 (n : Nat) (x2 : Int32) (e1 : Nat) (σ : wt_St) : Option (wt_St) :=
  if x2 = 0 then
    wp_md_clause_B246 n e1 120 σ
  else
    wp_md_clause_B246 n e1 122 σ
set_option maxRecDepth 100000 in
set_option maxHeartbeats 4000000 in
theorem wp_md_clause_B231_ok  {x2 : Int32} {e1 : Nat} {X : wt_X} {n : Nat} {res : wt_St} (hE : wt_Ok X prog_13_method_21_code 5 "WornTypeModel" 5 0) (hR : wt_Rt X none none res) (hD : ∀ i, 108 ≤ i → i < 321 → wt_dom (wt_xw X) i)  (hA_e1 : wt_LAY[e1]? = some (0, 26, [])) (hd_e1 : wt_dom (wt_xw X) e1) {σ : wt_St} (h : wp_md_clause_B231 n x2 e1 σ = some res) : wt_V X 0 σ 231 [some (.ref (wt_ad (wt_xw X) 108)), none, some (.int x2), none, none] [.ref (wt_ad (wt_xw X) e1), .ref (wt_ad (wt_xw X) 108)] := by
  unfold wp_md_clause_B231 at h
  refine wt_iload_n hE wp_md_clause_d231 rfl ?_
  refine wt_if_ne hE 242 wp_md_clause_d232 rfl (fun c43 => ?_) (fun c43 => ?_)
  · have h := wt_in c43 h
    refine wt_aload_n hE wp_md_clause_d242 rfl ?_
    refine wt_getr hE (r := 122) wt_lf_md_53 (hD 108 (by decide) (by decide)) wt_L108 rfl wp_md_clause_d243 ?_
    refine wt_wk [true, true, false, true, true] rfl ?_
    exact wp_md_clause_B246_ok hE hR hD hA_e1 hd_e1 wt_L122 (hD 122 (by decide) (by decide)) h
  · have h := wt_ip c43 h
    refine wt_aload_n hE wp_md_clause_d235 rfl ?_
    refine wt_getr hE (r := 120) wt_lf_md_47 (hD 108 (by decide) (by decide)) wt_L108 rfl wp_md_clause_d236 ?_
    refine wt_goto hE 246 wp_md_clause_d239 rfl ?_
    refine wt_wk [true, true, false, true, true] rfl ?_
    exact wp_md_clause_B246_ok hE hR hD hA_e1 hd_e1 wt_L120 (hD 120 (by decide) (by decide)) h
noncomputable def wp_md_clause_B179 (n : Nat) (x2 : Int32) (σ : wt_St) : Option (wt_St) :=
  if (wt_gf σ 108 5) = 0 then
    (wp_md_lettersHere n σ).bind fun q22 =>
    if (2 : Int32) ≤ x2 then
      if x2 = (2 : Int32) then
        (wp_md_letterHere n (wt_sf (wt_sf q22.2 108 4 ((wt_gf σ 108 4) + q22.1)) 108 7 ((wt_gf (wt_sf q22.2 108 4 ((wt_gf σ 108 4) + q22.1)) 108 7) + (1 : Int32)))).bind fun q38 =>
        (wp_md_number n (0 : Int32) (99 : Int32) q38.2).bind fun q39 =>
        if (wt_gf q39.2 108 5) = 0 then
          if q38.1 < 0 ∨ 26 ≤ Int32.toNatClampNeg q38.1 then none else
          wp_md_clause_B286 n (wt_sa q39.2 114 (Int32.toNatClampNeg q38.1) q39.1)
        else
          wp_md_clause_B286 n q39.2
      else
        if x2 = (3 : Int32) then
          (wp_md_number n (0 : Int32) (99 : Int32) (wt_sf (wt_sf q22.2 108 4 ((wt_gf σ 108 4) + q22.1)) 108 7 ((wt_gf (wt_sf q22.2 108 4 ((wt_gf σ 108 4) + q22.1)) 108 7) + (1 : Int32)))).bind fun q37 =>
          wp_md_clause_B377 n (wt_sf q37.2 108 24 q37.1)
        else
          if x2 = (4 : Int32) then
            (wp_md_letterHere n (wt_sf (wt_sf q22.2 108 4 ((wt_gf σ 108 4) + q22.1)) 108 7 ((wt_gf (wt_sf q22.2 108 4 ((wt_gf σ 108 4) + q22.1)) 108 7) + (1 : Int32)))).bind fun q33 =>
            (wp_md_letterHere n q33.2).bind fun q34 =>
            if (wt_gf q34.2 108 5) = 0 then
              if q33.1 < 0 ∨ 26 ≤ Int32.toNatClampNeg q33.1 then none else
              wp_md_clause_B339 n (wt_sa q34.2 116 (Int32.toNatClampNeg q33.1) q34.1)
            else
              wp_md_clause_B339 n q34.2
          else
            (wp_md_number n (0 : Int32) (3 : Int32) (wt_sf (wt_sf q22.2 108 4 ((wt_gf σ 108 4) + q22.1)) 108 7 ((wt_gf (wt_sf q22.2 108 4 ((wt_gf σ 108 4) + q22.1)) 108 7) + (1 : Int32)))).bind fun q27 =>
            (wp_md_number n (0 : Int32) (3 : Int32) q27.2).bind fun q28 =>
            if (wt_gf q28.2 108 5) = 0 then
              if q27.1 < 0 ∨ 4 ≤ Int32.toNatClampNeg q27.1 then none else
              if q27.1 < 0 ∨ 4 ≤ Int32.toNatClampNeg q27.1 then none else
              wp_md_clause_B377 n (wt_sa q28.2 118 (Int32.toNatClampNeg q27.1) ((wt_ga q28.2 118 (Int32.toNatClampNeg q27.1)) ||| ((1 : Int32) <<< (q28.1 &&& 31))))
            else
              wp_md_clause_B377 n q28.2
    else
      if x2 = 0 then
        wp_md_clause_B231 n x2 110 (wt_sf (wt_sf q22.2 108 4 ((wt_gf σ 108 4) + q22.1)) 108 7 ((wt_gf (wt_sf q22.2 108 4 ((wt_gf σ 108 4) + q22.1)) 108 7) + (1 : Int32)))
      else
        wp_md_clause_B231 n x2 112 (wt_sf (wt_sf q22.2 108 4 ((wt_gf σ 108 4) + q22.1)) 108 7 ((wt_gf (wt_sf q22.2 108 4 ((wt_gf σ 108 4) + q22.1)) 108 7) + (1 : Int32)))
  else
    some σ
set_option maxRecDepth 100000 in
set_option maxHeartbeats 4000000 in
theorem wp_md_clause_B179_ok  {x2 : Int32} {X : wt_X} {n : Nat} {res : wt_St} (hE : wt_Ok X prog_13_method_21_code 5 "WornTypeModel" 5 0) (hR : wt_Rt X none none res) (hD : ∀ i, 108 ≤ i → i < 321 → wt_dom (wt_xw X) i)  {σ : wt_St} (h : wp_md_clause_B179 n x2 σ = some res) : wt_V X 0 σ 179 [some (.ref (wt_ad (wt_xw X) 108)), none, some (.int x2), none, none] [] := by
  unfold wp_md_clause_B179 at h
  refine wt_aload_n hE wp_md_clause_d179 rfl ?_
  refine wt_geti hE wt_lf_md_167 (hD 108 (by decide) (by decide)) wt_L108 rfl wp_md_clause_d180 ?_
  refine wt_if_eq hE 187 wp_md_clause_d183 rfl (fun c21 => ?_) (fun c21 => ?_)
  · have h := wt_ip c21 h
    refine wt_aload_n hE wp_md_clause_d187 rfl ?_
    refine wt_dup hE wp_md_clause_d188 rfl ?_
    refine wt_geti hE wt_lf_md_160 (hD 108 (by decide) (by decide)) wt_L108 rfl wp_md_clause_d189 ?_
    refine wt_aload_n hE wp_md_clause_d192 rfl ?_
    obtain ⟨q22, hq22, h⟩ := wt_bi h
    refine wt_callVi hE [] wt_lm_md_192 wt_ya_md_lettersHere (wp_md_lettersHere_ok hD hq22) (by omega) (hD 108 (by decide) (by decide)) wt_L108 rfl rfl rfl (Nat.le_of_ble_eq_true rfl) (Nat.zero_le _) wp_md_clause_d193 (fun hbq22 => ?_)
    refine wt_iadd hE wp_md_clause_d196 ?_
    refine wt_puti hE wt_lf_md_160 (hD 108 (by decide) (by decide)) wt_L108 rfl (fun q hq => by cases hq; rfl) wp_md_clause_d197 ?_
    refine wt_aload_n hE wp_md_clause_d200 rfl ?_
    refine wt_dup hE wp_md_clause_d201 rfl ?_
    refine wt_geti hE wt_lf_md_196 (hD 108 (by decide) (by decide)) wt_L108 rfl wp_md_clause_d202 ?_
    refine wt_iconst hE (1 : Int32) wp_md_clause_d205 wt_ci_1 ?_
    refine wt_iadd hE wp_md_clause_d206 ?_
    refine wt_puti hE wt_lf_md_196 (hD 108 (by decide) (by decide)) wt_L108 rfl (fun q hq => by cases hq; rfl) wp_md_clause_d207 ?_
    refine wt_iload_n hE wp_md_clause_d210 rfl ?_
    refine wt_iconst hE (2 : Int32) wp_md_clause_d211 wt_ci_2 ?_
    refine wt_icmp_ge hE 252 wp_md_clause_d212 rfl (fun c23 => ?_) (fun c23 => ?_)
    · have h := wt_ip c23 h
      refine wt_iload_n hE wp_md_clause_d252 rfl ?_
      refine wt_iconst hE (2 : Int32) wp_md_clause_d253 wt_ci_2 ?_
      refine wt_icmp_ne hE 289 wp_md_clause_d254 rfl (fun c24 => ?_) (fun c24 => ?_)
      · have h := wt_in c24 h
        refine wt_iload_n hE wp_md_clause_d289 rfl ?_
        refine wt_iconst hE (3 : Int32) wp_md_clause_d290 wt_ci_3 ?_
        refine wt_icmp_ne hE 308 wp_md_clause_d291 rfl (fun c25 => ?_) (fun c25 => ?_)
        · have h := wt_in c25 h
          refine wt_iload_n hE wp_md_clause_d308 rfl ?_
          refine wt_iconst hE (4 : Int32) wp_md_clause_d309 wt_ci_4 ?_
          refine wt_icmp_ne hE 342 wp_md_clause_d310 rfl (fun c26 => ?_) (fun c26 => ?_)
          · have h := wt_in c26 h
            refine wt_aload_n hE wp_md_clause_d342 rfl ?_
            refine wt_iconst hE (0 : Int32) wp_md_clause_d343 wt_ci_0 ?_
            refine wt_iconst hE (3 : Int32) wp_md_clause_d344 wt_ci_3 ?_
            obtain ⟨q27, hq27, h⟩ := wt_bi h
            refine wt_callVi hE [.int (0 : Int32), .int (3 : Int32)] wt_lm_md_219 wt_ya_md_number (wp_md_number_ok hD hq27) (by omega) (hD 108 (by decide) (by decide)) wt_L108 rfl rfl rfl (Nat.le_of_ble_eq_true rfl) (Nat.zero_le _) wp_md_clause_d345 (fun hbq27 => ?_)
            refine wt_istore_n hE [some (.ref (wt_ad (wt_xw X) 108)), none, some (.int x2), some (.int q27.1), none] wp_md_clause_d348 (by decide) rfl ?_
            refine wt_aload_n hE wp_md_clause_d349 rfl ?_
            refine wt_iconst hE (0 : Int32) wp_md_clause_d350 wt_ci_0 ?_
            refine wt_iconst hE (3 : Int32) wp_md_clause_d351 wt_ci_3 ?_
            obtain ⟨q28, hq28, h⟩ := wt_bi h
            refine wt_callVi hE [.int (0 : Int32), .int (3 : Int32)] wt_lm_md_219 wt_ya_md_number (wp_md_number_ok hD hq28) (by omega) (hD 108 (by decide) (by decide)) wt_L108 rfl rfl rfl (Nat.le_of_ble_eq_true rfl) (Nat.zero_le _) wp_md_clause_d352 (fun hbq28 => ?_)
            refine wt_istore hE [some (.ref (wt_ad (wt_xw X) 108)), none, some (.int x2), some (.int q27.1), some (.int q28.1)] wp_md_clause_d355 (Nat.le_of_ble_eq_true rfl) rfl ?_
            refine wt_aload_n hE wp_md_clause_d357 rfl ?_
            refine wt_geti hE wt_lf_md_167 (hD 108 (by decide) (by decide)) wt_L108 rfl wp_md_clause_d358 ?_
            refine wt_if_ne hE 377 wp_md_clause_d361 rfl (fun c29 => ?_) (fun c29 => ?_)
            · have h := wt_in c29 h
              refine wt_wk [true, true, false, false, false] rfl ?_
              exact wp_md_clause_B377_ok hE hR hD h
            · have h := wt_ip c29 h
              refine wt_aload_n hE wp_md_clause_d364 rfl ?_
              refine wt_getr hE (r := 118) wt_lf_md_41 (hD 108 (by decide) (by decide)) wt_L108 rfl wp_md_clause_d365 ?_
              refine wt_iload_n hE wp_md_clause_d368 rfl ?_
              refine wt_dup2 hE wp_md_clause_d369 rfl rfl ?_
              obtain ⟨g31, h⟩ := wt_gd h
              refine wt_iald hE (hD 118 (by decide) (by decide)) wt_L118 g31 wp_md_clause_d370 ?_
              refine wt_iconst hE (1 : Int32) wp_md_clause_d371 wt_ci_1 ?_
              refine wt_iload hE wp_md_clause_d372 rfl ?_
              refine wt_ishl hE wp_md_clause_d374 ?_
              refine wt_ior hE wp_md_clause_d375 ?_
              obtain ⟨g32, h⟩ := wt_gd h
              refine wt_iast hE (hD 118 (by decide) (by decide)) wt_L118 g32 wp_md_clause_d376 ?_
              refine wt_wk [true, true, false, false, false] rfl ?_
              exact wp_md_clause_B377_ok hE hR hD h
          · have h := wt_ip c26 h
            refine wt_aload_n hE wp_md_clause_d313 rfl ?_
            obtain ⟨q33, hq33, h⟩ := wt_bi h
            refine wt_callVi hE [] wt_lm_md_216 wt_ya_md_letterHere (wp_md_letterHere_ok hD hq33) (by omega) (hD 108 (by decide) (by decide)) wt_L108 rfl rfl rfl (Nat.le_of_ble_eq_true rfl) (Nat.zero_le _) wp_md_clause_d314 (fun hbq33 => ?_)
            refine wt_istore_n hE [some (.ref (wt_ad (wt_xw X) 108)), none, some (.int x2), some (.int q33.1), none] wp_md_clause_d317 (by decide) rfl ?_
            refine wt_aload_n hE wp_md_clause_d318 rfl ?_
            obtain ⟨q34, hq34, h⟩ := wt_bi h
            refine wt_callVi hE [] wt_lm_md_216 wt_ya_md_letterHere (wp_md_letterHere_ok hD hq34) (by omega) (hD 108 (by decide) (by decide)) wt_L108 rfl rfl rfl (Nat.le_of_ble_eq_true rfl) (Nat.zero_le _) wp_md_clause_d319 (fun hbq34 => ?_)
            refine wt_istore hE [some (.ref (wt_ad (wt_xw X) 108)), none, some (.int x2), some (.int q33.1), some (.int q34.1)] wp_md_clause_d322 (Nat.le_of_ble_eq_true rfl) rfl ?_
            refine wt_aload_n hE wp_md_clause_d324 rfl ?_
            refine wt_geti hE wt_lf_md_167 (hD 108 (by decide) (by decide)) wt_L108 rfl wp_md_clause_d325 ?_
            refine wt_if_ne hE 339 wp_md_clause_d328 rfl (fun c35 => ?_) (fun c35 => ?_)
            · have h := wt_in c35 h
              refine wt_wk [true, true, false, false, false] rfl ?_
              exact wp_md_clause_B339_ok hE hR hD h
            · have h := wt_ip c35 h
              refine wt_aload_n hE wp_md_clause_d331 rfl ?_
              refine wt_getr hE (r := 116) wt_lf_md_35 (hD 108 (by decide) (by decide)) wt_L108 rfl wp_md_clause_d332 ?_
              refine wt_iload_n hE wp_md_clause_d335 rfl ?_
              refine wt_iload hE wp_md_clause_d336 rfl ?_
              obtain ⟨g36, h⟩ := wt_gd h
              refine wt_iast hE (hD 116 (by decide) (by decide)) wt_L116 g36 wp_md_clause_d338 ?_
              refine wt_wk [true, true, false, false, false] rfl ?_
              exact wp_md_clause_B339_ok hE hR hD h
        · have h := wt_ip c25 h
          refine wt_aload_n hE wp_md_clause_d294 rfl ?_
          refine wt_aload_n hE wp_md_clause_d295 rfl ?_
          refine wt_iconst hE (0 : Int32) wp_md_clause_d296 wt_ci_0 ?_
          refine wt_bipush hE (99 : Int32) wp_md_clause_d297 wt_cb_99 ?_
          obtain ⟨q37, hq37, h⟩ := wt_bi h
          refine wt_callVi hE [.int (0 : Int32), .int (99 : Int32)] wt_lm_md_219 wt_ya_md_number (wp_md_number_ok hD hq37) (by omega) (hD 108 (by decide) (by decide)) wt_L108 rfl rfl rfl (Nat.le_of_ble_eq_true rfl) (Nat.zero_le _) wp_md_clause_d299 (fun hbq37 => ?_)
          refine wt_puti hE wt_lf_md_199 (hD 108 (by decide) (by decide)) wt_L108 rfl (fun q hq => by cases hq; rfl) wp_md_clause_d302 ?_
          refine wt_goto hE 377 wp_md_clause_d305 rfl ?_
          refine wt_wk [true, true, false, true, true] rfl ?_
          exact wp_md_clause_B377_ok hE hR hD h
      · have h := wt_ip c24 h
        refine wt_aload_n hE wp_md_clause_d257 rfl ?_
        obtain ⟨q38, hq38, h⟩ := wt_bi h
        refine wt_callVi hE [] wt_lm_md_216 wt_ya_md_letterHere (wp_md_letterHere_ok hD hq38) (by omega) (hD 108 (by decide) (by decide)) wt_L108 rfl rfl rfl (Nat.le_of_ble_eq_true rfl) (Nat.zero_le _) wp_md_clause_d258 (fun hbq38 => ?_)
        refine wt_istore_n hE [some (.ref (wt_ad (wt_xw X) 108)), none, some (.int x2), some (.int q38.1), none] wp_md_clause_d261 (by decide) rfl ?_
        refine wt_aload_n hE wp_md_clause_d262 rfl ?_
        refine wt_iconst hE (0 : Int32) wp_md_clause_d263 wt_ci_0 ?_
        refine wt_bipush hE (99 : Int32) wp_md_clause_d264 wt_cb_99 ?_
        obtain ⟨q39, hq39, h⟩ := wt_bi h
        refine wt_callVi hE [.int (0 : Int32), .int (99 : Int32)] wt_lm_md_219 wt_ya_md_number (wp_md_number_ok hD hq39) (by omega) (hD 108 (by decide) (by decide)) wt_L108 rfl rfl rfl (Nat.le_of_ble_eq_true rfl) (Nat.zero_le _) wp_md_clause_d266 (fun hbq39 => ?_)
        refine wt_istore hE [some (.ref (wt_ad (wt_xw X) 108)), none, some (.int x2), some (.int q38.1), some (.int q39.1)] wp_md_clause_d269 (Nat.le_of_ble_eq_true rfl) rfl ?_
        refine wt_aload_n hE wp_md_clause_d271 rfl ?_
        refine wt_geti hE wt_lf_md_167 (hD 108 (by decide) (by decide)) wt_L108 rfl wp_md_clause_d272 ?_
        refine wt_if_ne hE 286 wp_md_clause_d275 rfl (fun c40 => ?_) (fun c40 => ?_)
        · have h := wt_in c40 h
          refine wt_wk [true, true, false, false, false] rfl ?_
          exact wp_md_clause_B286_ok hE hR hD h
        · have h := wt_ip c40 h
          refine wt_aload_n hE wp_md_clause_d278 rfl ?_
          refine wt_getr hE (r := 114) wt_lf_md_29 (hD 108 (by decide) (by decide)) wt_L108 rfl wp_md_clause_d279 ?_
          refine wt_iload_n hE wp_md_clause_d282 rfl ?_
          refine wt_iload hE wp_md_clause_d283 rfl ?_
          obtain ⟨g41, h⟩ := wt_gd h
          refine wt_iast hE (hD 114 (by decide) (by decide)) wt_L114 g41 wp_md_clause_d285 ?_
          refine wt_wk [true, true, false, false, false] rfl ?_
          exact wp_md_clause_B286_ok hE hR hD h
    · have h := wt_in c23 h
      refine wt_aload_n hE wp_md_clause_d215 rfl ?_
      refine wt_iload_n hE wp_md_clause_d216 rfl ?_
      refine wt_if_ne hE 227 wp_md_clause_d217 rfl (fun c42 => ?_) (fun c42 => ?_)
      · have h := wt_in c42 h
        refine wt_aload_n hE wp_md_clause_d227 rfl ?_
        refine wt_getr hE (r := 112) wt_lf_md_23 (hD 108 (by decide) (by decide)) wt_L108 rfl wp_md_clause_d228 ?_
        exact wp_md_clause_B231_ok hE hR hD wt_L112 (hD 112 (by decide) (by decide)) h
      · have h := wt_ip c42 h
        refine wt_aload_n hE wp_md_clause_d220 rfl ?_
        refine wt_getr hE (r := 110) wt_lf_md_17 (hD 108 (by decide) (by decide)) wt_L108 rfl wp_md_clause_d221 ?_
        refine wt_goto hE 231 wp_md_clause_d224 rfl ?_
        exact wp_md_clause_B231_ok hE hR hD wt_L110 (hD 110 (by decide) (by decide)) h
  · have h := wt_in c21 h
    cases h
    exact wt_vret hE hR wp_md_clause_d186
noncomputable def wp_md_clause_B149 (n : Nat) (x1 : Int32) (y0 : Int32) (σ : wt_St) : Option (wt_St) :=
  if y0 = (-1 : Int32) then
    (wp_md_wrong n (1 : Int32) x1 σ).bind fun q46 =>
    wp_md_clause_B179 n y0 q46
  else
    if (wt_gf σ 108 7) = (60 : Int32) then
      (wp_md_wrong n (3 : Int32) x1 σ).bind fun q45 =>
      wp_md_clause_B179 n y0 q45
    else
      wp_md_clause_B179 n y0 σ
set_option maxRecDepth 100000 in
set_option maxHeartbeats 4000000 in
theorem wp_md_clause_B149_ok  {x1 : Int32} {X : wt_X} {n : Nat} {res : wt_St} (hE : wt_Ok X prog_13_method_21_code 5 "WornTypeModel" 5 0) (hR : wt_Rt X none none res) (hD : ∀ i, 108 ≤ i → i < 321 → wt_dom (wt_xw X) i)  {σ : wt_St} {y0 : Int32} (h : wp_md_clause_B149 n x1 y0 σ = some res) : wt_V X 0 σ 149 [some (.ref (wt_ad (wt_xw X) 108)), some (.int x1), none, none, none] [.int y0] := by
  unfold wp_md_clause_B149 at h
  refine wt_istore_n hE [some (.ref (wt_ad (wt_xw X) 108)), some (.int x1), some (.int y0), none, none] wp_md_clause_d149 (by decide) rfl ?_
  refine wt_iload_n hE wp_md_clause_d150 rfl ?_
  refine wt_iconst hE (-1 : Int32) wp_md_clause_d151 wt_ci_m1 ?_
  refine wt_icmp_ne hE 164 wp_md_clause_d152 rfl (fun c19 => ?_) (fun c19 => ?_)
  · have h := wt_in c19 h
    refine wt_aload_n hE wp_md_clause_d164 rfl ?_
    refine wt_geti hE wt_lf_md_196 (hD 108 (by decide) (by decide)) wt_L108 rfl wp_md_clause_d165 ?_
    refine wt_bipush hE (60 : Int32) wp_md_clause_d168 wt_cb_60 ?_
    refine wt_icmp_ne hE 179 wp_md_clause_d170 rfl (fun c20 => ?_) (fun c20 => ?_)
    · have h := wt_in c20 h
      refine wt_wk [true, false, true, true, true] rfl ?_
      exact wp_md_clause_B179_ok hE hR hD h
    · have h := wt_ip c20 h
      refine wt_aload_n hE wp_md_clause_d173 rfl ?_
      refine wt_iconst hE (3 : Int32) wp_md_clause_d174 wt_ci_3 ?_
      refine wt_iload_n hE wp_md_clause_d175 rfl ?_
      obtain ⟨q45, hq45, h⟩ := wt_bi h
      refine wt_callVv hE [.int (3 : Int32), .int x1] wt_lm_md_180 wt_ya_md_wrong (wp_md_wrong_ok hD hq45) (by omega) (hD 108 (by decide) (by decide)) wt_L108 rfl rfl rfl (Nat.le_of_ble_eq_true rfl) (Nat.zero_le _) wp_md_clause_d176 ?_
      refine wt_wk [true, false, true, true, true] rfl ?_
      exact wp_md_clause_B179_ok hE hR hD h
  · have h := wt_ip c19 h
    refine wt_aload_n hE wp_md_clause_d155 rfl ?_
    refine wt_iconst hE (1 : Int32) wp_md_clause_d156 wt_ci_1 ?_
    refine wt_iload_n hE wp_md_clause_d157 rfl ?_
    obtain ⟨q46, hq46, h⟩ := wt_bi h
    refine wt_callVv hE [.int (1 : Int32), .int x1] wt_lm_md_180 wt_ya_md_wrong (wp_md_wrong_ok hD hq46) (by omega) (hD 108 (by decide) (by decide)) wt_L108 rfl rfl rfl (Nat.le_of_ble_eq_true rfl) (Nat.zero_le _) wp_md_clause_d158 ?_
    refine wt_goto hE 179 wp_md_clause_d161 rfl ?_
    refine wt_wk [true, false, true, true, true] rfl ?_
    exact wp_md_clause_B179_ok hE hR hD h
noncomputable def wp_md_clause (n : Nat) (σ : wt_St) : Option (wt_St) :=
  (wp_md_six n (12 : Int32) (5 : Int32) (20 : Int32) (20 : Int32) (5 : Int32) (18 : Int32) σ).bind fun q1 =>
  (wp_md_isWord n q1.1 q1.2).bind fun q2 =>
  if q2.1 = 0 then
    (wp_md_six n (20 : Int32) (8 : Int32) (5 : Int32) (18 : Int32) (5 : Int32) (0 : Int32) q2.2).bind fun q4 =>
    (wp_md_isWord n q4.1 q4.2).bind fun q5 =>
    if q5.1 = 0 then
      (wp_md_six n (16 : Int32) (18 : Int32) (9 : Int32) (3 : Int32) (5 : Int32) (0 : Int32) q5.2).bind fun q7 =>
      (wp_md_isWord n q7.1 q7.2).bind fun q8 =>
      if q8.1 = 0 then
        (wp_md_six n (6 : Int32) (1 : Int32) (9 : Int32) (14 : Int32) (20 : Int32) (0 : Int32) q8.2).bind fun q10 =>
        (wp_md_isWord n q10.1 q10.2).bind fun q11 =>
        if q11.1 = 0 then
          (wp_md_six n (12 : Int32) (9 : Int32) (11 : Int32) (5 : Int32) (0 : Int32) (0 : Int32) q11.2).bind fun q13 =>
          (wp_md_isWord n q13.1 q13.2).bind fun q14 =>
          if q14.1 = 0 then
            (wp_md_six n (6 : Int32) (15 : Int32) (12 : Int32) (12 : Int32) (15 : Int32) (23 : Int32) q14.2).bind fun q16 =>
            (wp_md_isWord n q16.1 q16.2).bind fun q17 =>
            if q17.1 = 0 then
              wp_md_clause_B149 n (wt_gf σ 108 4) (-1 : Int32) q17.2
            else
              wp_md_clause_B149 n (wt_gf σ 108 4) (5 : Int32) q17.2
          else
            wp_md_clause_B149 n (wt_gf σ 108 4) (4 : Int32) q14.2
        else
          wp_md_clause_B149 n (wt_gf σ 108 4) (3 : Int32) q11.2
      else
        wp_md_clause_B149 n (wt_gf σ 108 4) (2 : Int32) q8.2
    else
      wp_md_clause_B149 n (wt_gf σ 108 4) (1 : Int32) q5.2
  else
    wp_md_clause_B149 n (wt_gf σ 108 4) (0 : Int32) q2.2
set_option maxRecDepth 100000 in
set_option maxHeartbeats 4000000 in
theorem wp_md_clause_ok {l : Launch} {w : wt_E} {n : Nat} (hD : ∀ i, 108 ≤ i → i < 321 → wt_dom w i) {σ : wt_St} {q : wt_St} (h : wp_md_clause n σ = some q) : wt_Ctr l w wt_y_md_clause prog_13_method_21_code 5 none 5 [.ref (wt_ad w 108)] σ none q := by
  refine wt_ctr wt_pl_md_clause rfl (Nat.le_of_ble_eq_true rfl) [some (.ref (wt_ad w 108)), none, none, none, none] rfl ?_
  intro X hXl hXw hE hR
  subst hXl
  subst hXw
  have hE : wt_Ok X prog_13_method_21_code 5 "WornTypeModel" 5 0 := hE
  unfold wp_md_clause at h
  refine wt_aload_n hE wp_md_clause_d0 rfl ?_
  refine wt_geti hE wt_lf_md_160 (hD 108 (by decide) (by decide)) wt_L108 rfl wp_md_clause_d1 ?_
  refine wt_istore_n hE [some (.ref (wt_ad (wt_xw X) 108)), some (.int (wt_gf σ 108 4)), none, none, none] wp_md_clause_d4 (by decide) rfl ?_
  refine wt_aload_n hE wp_md_clause_d5 rfl ?_
  refine wt_bipush hE (12 : Int32) wp_md_clause_d6 wt_cb_12 ?_
  refine wt_iconst hE (5 : Int32) wp_md_clause_d8 wt_ci_5 ?_
  refine wt_bipush hE (20 : Int32) wp_md_clause_d9 wt_cb_20 ?_
  refine wt_bipush hE (20 : Int32) wp_md_clause_d11 wt_cb_20 ?_
  refine wt_iconst hE (5 : Int32) wp_md_clause_d13 wt_ci_5 ?_
  refine wt_bipush hE (18 : Int32) wp_md_clause_d14 wt_cb_18 ?_
  obtain ⟨q1, hq1, h⟩ := wt_bi h
  refine wt_callSi hE [.int (12 : Int32), .int (5 : Int32), .int (20 : Int32), .int (20 : Int32), .int (5 : Int32), .int (18 : Int32)] wt_lm_md_205 wt_ya_md_six (wp_md_six_ok hq1) (by omega) rfl rfl (Nat.le_of_ble_eq_true rfl) (Nat.zero_le _) wp_md_clause_d16 (fun hbq1 => ?_)
  obtain ⟨q2, hq2, h⟩ := wt_bi h
  refine wt_callVi hE [.int q1.1] wt_lm_md_209 wt_ya_md_isWord (wp_md_isWord_ok hD hq2) (by omega) (hD 108 (by decide) (by decide)) wt_L108 rfl rfl rfl (Nat.le_of_ble_eq_true rfl) (Nat.zero_le _) wp_md_clause_d19 (fun hbq2 => ?_)
  refine wt_if_eq hE 29 wp_md_clause_d22 rfl (fun c3 => ?_) (fun c3 => ?_)
  · have h := wt_ip c3 h
    refine wt_aload_n hE wp_md_clause_d29 rfl ?_
    refine wt_bipush hE (20 : Int32) wp_md_clause_d30 wt_cb_20 ?_
    refine wt_bipush hE (8 : Int32) wp_md_clause_d32 wt_cb_8 ?_
    refine wt_iconst hE (5 : Int32) wp_md_clause_d34 wt_ci_5 ?_
    refine wt_bipush hE (18 : Int32) wp_md_clause_d35 wt_cb_18 ?_
    refine wt_iconst hE (5 : Int32) wp_md_clause_d37 wt_ci_5 ?_
    refine wt_iconst hE (0 : Int32) wp_md_clause_d38 wt_ci_0 ?_
    obtain ⟨q4, hq4, h⟩ := wt_bi h
    refine wt_callSi hE [.int (20 : Int32), .int (8 : Int32), .int (5 : Int32), .int (18 : Int32), .int (5 : Int32), .int (0 : Int32)] wt_lm_md_205 wt_ya_md_six (wp_md_six_ok hq4) (by omega) rfl rfl (Nat.le_of_ble_eq_true rfl) (Nat.zero_le _) wp_md_clause_d39 (fun hbq4 => ?_)
    obtain ⟨q5, hq5, h⟩ := wt_bi h
    refine wt_callVi hE [.int q4.1] wt_lm_md_209 wt_ya_md_isWord (wp_md_isWord_ok hD hq5) (by omega) (hD 108 (by decide) (by decide)) wt_L108 rfl rfl rfl (Nat.le_of_ble_eq_true rfl) (Nat.zero_le _) wp_md_clause_d42 (fun hbq5 => ?_)
    refine wt_if_eq hE 52 wp_md_clause_d45 rfl (fun c6 => ?_) (fun c6 => ?_)
    · have h := wt_ip c6 h
      refine wt_aload_n hE wp_md_clause_d52 rfl ?_
      refine wt_bipush hE (16 : Int32) wp_md_clause_d53 wt_cb_16 ?_
      refine wt_bipush hE (18 : Int32) wp_md_clause_d55 wt_cb_18 ?_
      refine wt_bipush hE (9 : Int32) wp_md_clause_d57 wt_cb_9 ?_
      refine wt_iconst hE (3 : Int32) wp_md_clause_d59 wt_ci_3 ?_
      refine wt_iconst hE (5 : Int32) wp_md_clause_d60 wt_ci_5 ?_
      refine wt_iconst hE (0 : Int32) wp_md_clause_d61 wt_ci_0 ?_
      obtain ⟨q7, hq7, h⟩ := wt_bi h
      refine wt_callSi hE [.int (16 : Int32), .int (18 : Int32), .int (9 : Int32), .int (3 : Int32), .int (5 : Int32), .int (0 : Int32)] wt_lm_md_205 wt_ya_md_six (wp_md_six_ok hq7) (by omega) rfl rfl (Nat.le_of_ble_eq_true rfl) (Nat.zero_le _) wp_md_clause_d62 (fun hbq7 => ?_)
      obtain ⟨q8, hq8, h⟩ := wt_bi h
      refine wt_callVi hE [.int q7.1] wt_lm_md_209 wt_ya_md_isWord (wp_md_isWord_ok hD hq8) (by omega) (hD 108 (by decide) (by decide)) wt_L108 rfl rfl rfl (Nat.le_of_ble_eq_true rfl) (Nat.zero_le _) wp_md_clause_d65 (fun hbq8 => ?_)
      refine wt_if_eq hE 75 wp_md_clause_d68 rfl (fun c9 => ?_) (fun c9 => ?_)
      · have h := wt_ip c9 h
        refine wt_aload_n hE wp_md_clause_d75 rfl ?_
        refine wt_bipush hE (6 : Int32) wp_md_clause_d76 wt_cb_6 ?_
        refine wt_iconst hE (1 : Int32) wp_md_clause_d78 wt_ci_1 ?_
        refine wt_bipush hE (9 : Int32) wp_md_clause_d79 wt_cb_9 ?_
        refine wt_bipush hE (14 : Int32) wp_md_clause_d81 wt_cb_14 ?_
        refine wt_bipush hE (20 : Int32) wp_md_clause_d83 wt_cb_20 ?_
        refine wt_iconst hE (0 : Int32) wp_md_clause_d85 wt_ci_0 ?_
        obtain ⟨q10, hq10, h⟩ := wt_bi h
        refine wt_callSi hE [.int (6 : Int32), .int (1 : Int32), .int (9 : Int32), .int (14 : Int32), .int (20 : Int32), .int (0 : Int32)] wt_lm_md_205 wt_ya_md_six (wp_md_six_ok hq10) (by omega) rfl rfl (Nat.le_of_ble_eq_true rfl) (Nat.zero_le _) wp_md_clause_d86 (fun hbq10 => ?_)
        obtain ⟨q11, hq11, h⟩ := wt_bi h
        refine wt_callVi hE [.int q10.1] wt_lm_md_209 wt_ya_md_isWord (wp_md_isWord_ok hD hq11) (by omega) (hD 108 (by decide) (by decide)) wt_L108 rfl rfl rfl (Nat.le_of_ble_eq_true rfl) (Nat.zero_le _) wp_md_clause_d89 (fun hbq11 => ?_)
        refine wt_if_eq hE 99 wp_md_clause_d92 rfl (fun c12 => ?_) (fun c12 => ?_)
        · have h := wt_ip c12 h
          refine wt_aload_n hE wp_md_clause_d99 rfl ?_
          refine wt_bipush hE (12 : Int32) wp_md_clause_d100 wt_cb_12 ?_
          refine wt_bipush hE (9 : Int32) wp_md_clause_d102 wt_cb_9 ?_
          refine wt_bipush hE (11 : Int32) wp_md_clause_d104 wt_cb_11 ?_
          refine wt_iconst hE (5 : Int32) wp_md_clause_d106 wt_ci_5 ?_
          refine wt_iconst hE (0 : Int32) wp_md_clause_d107 wt_ci_0 ?_
          refine wt_iconst hE (0 : Int32) wp_md_clause_d108 wt_ci_0 ?_
          obtain ⟨q13, hq13, h⟩ := wt_bi h
          refine wt_callSi hE [.int (12 : Int32), .int (9 : Int32), .int (11 : Int32), .int (5 : Int32), .int (0 : Int32), .int (0 : Int32)] wt_lm_md_205 wt_ya_md_six (wp_md_six_ok hq13) (by omega) rfl rfl (Nat.le_of_ble_eq_true rfl) (Nat.zero_le _) wp_md_clause_d109 (fun hbq13 => ?_)
          obtain ⟨q14, hq14, h⟩ := wt_bi h
          refine wt_callVi hE [.int q13.1] wt_lm_md_209 wt_ya_md_isWord (wp_md_isWord_ok hD hq14) (by omega) (hD 108 (by decide) (by decide)) wt_L108 rfl rfl rfl (Nat.le_of_ble_eq_true rfl) (Nat.zero_le _) wp_md_clause_d112 (fun hbq14 => ?_)
          refine wt_if_eq hE 122 wp_md_clause_d115 rfl (fun c15 => ?_) (fun c15 => ?_)
          · have h := wt_ip c15 h
            refine wt_aload_n hE wp_md_clause_d122 rfl ?_
            refine wt_bipush hE (6 : Int32) wp_md_clause_d123 wt_cb_6 ?_
            refine wt_bipush hE (15 : Int32) wp_md_clause_d125 wt_cb_15 ?_
            refine wt_bipush hE (12 : Int32) wp_md_clause_d127 wt_cb_12 ?_
            refine wt_bipush hE (12 : Int32) wp_md_clause_d129 wt_cb_12 ?_
            refine wt_bipush hE (15 : Int32) wp_md_clause_d131 wt_cb_15 ?_
            refine wt_bipush hE (23 : Int32) wp_md_clause_d133 wt_cb_23 ?_
            obtain ⟨q16, hq16, h⟩ := wt_bi h
            refine wt_callSi hE [.int (6 : Int32), .int (15 : Int32), .int (12 : Int32), .int (12 : Int32), .int (15 : Int32), .int (23 : Int32)] wt_lm_md_205 wt_ya_md_six (wp_md_six_ok hq16) (by omega) rfl rfl (Nat.le_of_ble_eq_true rfl) (Nat.zero_le _) wp_md_clause_d135 (fun hbq16 => ?_)
            obtain ⟨q17, hq17, h⟩ := wt_bi h
            refine wt_callVi hE [.int q16.1] wt_lm_md_209 wt_ya_md_isWord (wp_md_isWord_ok hD hq17) (by omega) (hD 108 (by decide) (by decide)) wt_L108 rfl rfl rfl (Nat.le_of_ble_eq_true rfl) (Nat.zero_le _) wp_md_clause_d138 (fun hbq17 => ?_)
            refine wt_if_eq hE 148 wp_md_clause_d141 rfl (fun c18 => ?_) (fun c18 => ?_)
            · have h := wt_ip c18 h
              refine wt_iconst hE (-1 : Int32) wp_md_clause_d148 wt_ci_m1 ?_
              exact wp_md_clause_B149_ok hE hR hD h
            · have h := wt_in c18 h
              refine wt_iconst hE (5 : Int32) wp_md_clause_d144 wt_ci_5 ?_
              refine wt_goto hE 149 wp_md_clause_d145 rfl ?_
              exact wp_md_clause_B149_ok hE hR hD h
          · have h := wt_in c15 h
            refine wt_iconst hE (4 : Int32) wp_md_clause_d118 wt_ci_4 ?_
            refine wt_goto hE 149 wp_md_clause_d119 rfl ?_
            exact wp_md_clause_B149_ok hE hR hD h
        · have h := wt_in c12 h
          refine wt_iconst hE (3 : Int32) wp_md_clause_d95 wt_ci_3 ?_
          refine wt_goto hE 149 wp_md_clause_d96 rfl ?_
          exact wp_md_clause_B149_ok hE hR hD h
      · have h := wt_in c9 h
        refine wt_iconst hE (2 : Int32) wp_md_clause_d71 wt_ci_2 ?_
        refine wt_goto hE 149 wp_md_clause_d72 rfl ?_
        exact wp_md_clause_B149_ok hE hR hD h
    · have h := wt_in c6 h
      refine wt_iconst hE (1 : Int32) wp_md_clause_d48 wt_ci_1 ?_
      refine wt_goto hE 149 wp_md_clause_d49 rfl ?_
      exact wp_md_clause_B149_ok hE hR hD h
  · have h := wt_in c3 h
    refine wt_iconst hE (0 : Int32) wp_md_clause_d25 wt_ci_0 ?_
    refine wt_goto hE 149 wp_md_clause_d26 rfl ?_
    exact wp_md_clause_B149_ok hE hR hD h
def wb15m5_prog_13_method_18_code_r2 : List (List Nat) := [132, 1, 1, 167, 255, 241, 42, 3, 181, 0, 199, 177] :: []
def wb15m5_prog_13_method_18_code_r1 : List (List Nat) := [79, 42, 180, 0, 35, 27, 2, 79, 132, 1, 1, 167, 255, 219, 3, 60, 27, 7, 162, 0, 16, 42, 180, 0, 41, 27, 3, 79] :: wb15m5_prog_13_method_18_code_r2
def wb15m5_prog_13_method_18_code_r0 : List (List Nat) := [3, 60, 27, 16, 26, 162, 0, 37, 42, 180, 0, 17, 27, 3, 79, 42, 180, 0, 23, 27, 3, 79, 42, 180, 0, 29, 27, 4] :: wb15m5_prog_13_method_18_code_r1
set_option maxRecDepth 100000 in
theorem wb15m5_prog_13_method_18_code_c0 : wt_cs prog_13_method_18_code 0 wb15m5_prog_13_method_18_code_r0 := wt_cs_of (by decide +kernel)
theorem wb15m5_prog_13_method_18_code_c1 : wt_cs prog_13_method_18_code 28 wb15m5_prog_13_method_18_code_r1 := wt_cs_tl (m := 28) wb15m5_prog_13_method_18_code_c0 rfl rfl
theorem wb15m5_prog_13_method_18_code_c2 : wt_cs prog_13_method_18_code 56 wb15m5_prog_13_method_18_code_r2 := wt_cs_tl (m := 28) wb15m5_prog_13_method_18_code_c1 rfl rfl
theorem wp_md_clearsCase_d0 : decode prog_13_method_18_code 0 = .ok (.iconst 0, 1) := wt_op3 wb15m5_prog_13_method_18_code_c0 0 rfl rfl
theorem wp_md_clearsCase_d1 : decode prog_13_method_18_code 1 = .ok (.istore_n 1, 1) := wt_op60 wb15m5_prog_13_method_18_code_c0 1 rfl rfl
theorem wp_md_clearsCase_d2 : decode prog_13_method_18_code 2 = .ok (.iload_n 1, 1) := wt_op27 wb15m5_prog_13_method_18_code_c0 2 rfl rfl
theorem wp_md_clearsCase_d3 : decode prog_13_method_18_code 3 = .ok (.bipush 26, 2) := wt_op16 wb15m5_prog_13_method_18_code_c0 3 rfl rfl rfl
theorem wp_md_clearsCase_d5 : decode prog_13_method_18_code 5 = .ok (.if_icmp .ge 37, 3) := wt_op162 wb15m5_prog_13_method_18_code_c0 5 rfl rfl rfl
theorem wp_md_clearsCase_d8 : decode prog_13_method_18_code 8 = .ok (.aload_n 0, 1) := wt_op42 wb15m5_prog_13_method_18_code_c0 8 rfl rfl
theorem wp_md_clearsCase_d9 : decode prog_13_method_18_code 9 = .ok (.getfield 17, 3) := wt_op180 wb15m5_prog_13_method_18_code_c0 9 rfl rfl rfl
theorem wp_md_clearsCase_d12 : decode prog_13_method_18_code 12 = .ok (.iload_n 1, 1) := wt_op27 wb15m5_prog_13_method_18_code_c0 12 rfl rfl
theorem wp_md_clearsCase_d13 : decode prog_13_method_18_code 13 = .ok (.iconst 0, 1) := wt_op3 wb15m5_prog_13_method_18_code_c0 13 rfl rfl
theorem wp_md_clearsCase_d14 : decode prog_13_method_18_code 14 = .ok (.iastore, 1) := wt_op79 wb15m5_prog_13_method_18_code_c0 14 rfl rfl
theorem wp_md_clearsCase_d15 : decode prog_13_method_18_code 15 = .ok (.aload_n 0, 1) := wt_op42 wb15m5_prog_13_method_18_code_c0 15 rfl rfl
theorem wp_md_clearsCase_d16 : decode prog_13_method_18_code 16 = .ok (.getfield 23, 3) := wt_op180 wb15m5_prog_13_method_18_code_c0 16 rfl rfl rfl
theorem wp_md_clearsCase_d19 : decode prog_13_method_18_code 19 = .ok (.iload_n 1, 1) := wt_op27 wb15m5_prog_13_method_18_code_c0 19 rfl rfl
theorem wp_md_clearsCase_d20 : decode prog_13_method_18_code 20 = .ok (.iconst 0, 1) := wt_op3 wb15m5_prog_13_method_18_code_c0 20 rfl rfl
theorem wp_md_clearsCase_d21 : decode prog_13_method_18_code 21 = .ok (.iastore, 1) := wt_op79 wb15m5_prog_13_method_18_code_c0 21 rfl rfl
theorem wp_md_clearsCase_d22 : decode prog_13_method_18_code 22 = .ok (.aload_n 0, 1) := wt_op42 wb15m5_prog_13_method_18_code_c0 22 rfl rfl
theorem wp_md_clearsCase_d23 : decode prog_13_method_18_code 23 = .ok (.getfield 29, 3) := wt_op180 wb15m5_prog_13_method_18_code_c0 23 rfl rfl rfl
theorem wp_md_clearsCase_d26 : decode prog_13_method_18_code 26 = .ok (.iload_n 1, 1) := wt_op27 wb15m5_prog_13_method_18_code_c0 26 rfl rfl
theorem wp_md_clearsCase_d27 : decode prog_13_method_18_code 27 = .ok (.iconst 1, 1) := wt_op4 wb15m5_prog_13_method_18_code_c0 27 rfl rfl
theorem wp_md_clearsCase_d28 : decode prog_13_method_18_code 28 = .ok (.iastore, 1) := wt_op79 wb15m5_prog_13_method_18_code_c1 0 rfl rfl
theorem wp_md_clearsCase_d29 : decode prog_13_method_18_code 29 = .ok (.aload_n 0, 1) := wt_op42 wb15m5_prog_13_method_18_code_c1 1 rfl rfl
theorem wp_md_clearsCase_d30 : decode prog_13_method_18_code 30 = .ok (.getfield 35, 3) := wt_op180 wb15m5_prog_13_method_18_code_c1 2 rfl rfl rfl
theorem wp_md_clearsCase_d33 : decode prog_13_method_18_code 33 = .ok (.iload_n 1, 1) := wt_op27 wb15m5_prog_13_method_18_code_c1 5 rfl rfl
theorem wp_md_clearsCase_d34 : decode prog_13_method_18_code 34 = .ok (.iconst (-1), 1) := wt_op2 wb15m5_prog_13_method_18_code_c1 6 rfl rfl
theorem wp_md_clearsCase_d35 : decode prog_13_method_18_code 35 = .ok (.iastore, 1) := wt_op79 wb15m5_prog_13_method_18_code_c1 7 rfl rfl
theorem wp_md_clearsCase_d36 : decode prog_13_method_18_code 36 = .ok (.iinc 1 1, 3) := wt_op132 wb15m5_prog_13_method_18_code_c1 8 rfl rfl rfl
theorem wp_md_clearsCase_d39 : decode prog_13_method_18_code 39 = .ok (.goto (-37), 3) := wt_op167 wb15m5_prog_13_method_18_code_c1 11 rfl rfl rfl
theorem wp_md_clearsCase_d42 : decode prog_13_method_18_code 42 = .ok (.iconst 0, 1) := wt_op3 wb15m5_prog_13_method_18_code_c1 14 rfl rfl
theorem wp_md_clearsCase_d43 : decode prog_13_method_18_code 43 = .ok (.istore_n 1, 1) := wt_op60 wb15m5_prog_13_method_18_code_c1 15 rfl rfl
theorem wp_md_clearsCase_d44 : decode prog_13_method_18_code 44 = .ok (.iload_n 1, 1) := wt_op27 wb15m5_prog_13_method_18_code_c1 16 rfl rfl
theorem wp_md_clearsCase_d45 : decode prog_13_method_18_code 45 = .ok (.iconst 4, 1) := wt_op7 wb15m5_prog_13_method_18_code_c1 17 rfl rfl
theorem wp_md_clearsCase_d46 : decode prog_13_method_18_code 46 = .ok (.if_icmp .ge 16, 3) := wt_op162 wb15m5_prog_13_method_18_code_c1 18 rfl rfl rfl
theorem wp_md_clearsCase_d49 : decode prog_13_method_18_code 49 = .ok (.aload_n 0, 1) := wt_op42 wb15m5_prog_13_method_18_code_c1 21 rfl rfl
theorem wp_md_clearsCase_d50 : decode prog_13_method_18_code 50 = .ok (.getfield 41, 3) := wt_op180 wb15m5_prog_13_method_18_code_c1 22 rfl rfl rfl
theorem wp_md_clearsCase_d53 : decode prog_13_method_18_code 53 = .ok (.iload_n 1, 1) := wt_op27 wb15m5_prog_13_method_18_code_c1 25 rfl rfl
theorem wp_md_clearsCase_d54 : decode prog_13_method_18_code 54 = .ok (.iconst 0, 1) := wt_op3 wb15m5_prog_13_method_18_code_c1 26 rfl rfl
theorem wp_md_clearsCase_d55 : decode prog_13_method_18_code 55 = .ok (.iastore, 1) := wt_op79 wb15m5_prog_13_method_18_code_c1 27 rfl rfl
theorem wp_md_clearsCase_d56 : decode prog_13_method_18_code 56 = .ok (.iinc 1 1, 3) := wt_op132 wb15m5_prog_13_method_18_code_c2 0 rfl rfl rfl
theorem wp_md_clearsCase_d59 : decode prog_13_method_18_code 59 = .ok (.goto (-15), 3) := wt_op167 wb15m5_prog_13_method_18_code_c2 3 rfl rfl rfl
theorem wp_md_clearsCase_d62 : decode prog_13_method_18_code 62 = .ok (.aload_n 0, 1) := wt_op42 wb15m5_prog_13_method_18_code_c2 6 rfl rfl
theorem wp_md_clearsCase_d63 : decode prog_13_method_18_code 63 = .ok (.iconst 0, 1) := wt_op3 wb15m5_prog_13_method_18_code_c2 7 rfl rfl
theorem wp_md_clearsCase_d64 : decode prog_13_method_18_code 64 = .ok (.putfield 199, 3) := wt_op181 wb15m5_prog_13_method_18_code_c2 8 rfl rfl rfl
theorem wp_md_clearsCase_d67 : decode prog_13_method_18_code 67 = .ok (.return_, 1) := wt_op177 wb15m5_prog_13_method_18_code_c2 11 rfl rfl
noncomputable def wp_md_clearsCase_B44 (n : Nat) (K44 : Int32 × wt_St → Option (wt_St)) (s : Int32 × wt_St) : Option (wt_St) :=
  if (4 : Int32) ≤ s.1 then
    some (wt_sf s.2 108 24 (0 : Int32))
  else
    if s.1 < 0 ∨ 4 ≤ Int32.toNatClampNeg s.1 then none else
    K44 ((s.1 + (1 : Int32)), (wt_sa s.2 118 (Int32.toNatClampNeg s.1) (0 : Int32)))
set_option maxRecDepth 100000 in
set_option maxHeartbeats 4000000 in
theorem wp_md_clearsCase_B44_ok  {X : wt_X} {n : Nat} {res : wt_St} (hE : wt_Ok X prog_13_method_18_code 2 "WornTypeModel" 0 0) (hR : wt_Rt X none none res) (hD : ∀ i, 108 ≤ i → i < 321 → wt_dom (wt_xw X) i)  {K44 : Int32 × wt_St → Option (wt_St)} (hK44 : ∀ s : Int32 × wt_St, K44 s = some res → wt_V X 0 s.2 44 [some (.ref (wt_ad (wt_xw X) 108)), some (.int s.1)] []) {s : Int32 × wt_St} (h : wp_md_clearsCase_B44 n K44 s = some res) : wt_V X 0 s.2 44 [some (.ref (wt_ad (wt_xw X) 108)), some (.int s.1)] [] := by
  unfold wp_md_clearsCase_B44 at h
  refine wt_iload_n hE wp_md_clearsCase_d44 rfl ?_
  refine wt_iconst hE (4 : Int32) wp_md_clearsCase_d45 wt_ci_4 ?_
  refine wt_icmp_ge hE 62 wp_md_clearsCase_d46 rfl (fun c2 => ?_) (fun c2 => ?_)
  · have h := wt_ip c2 h
    refine wt_aload_n hE wp_md_clearsCase_d62 rfl ?_
    refine wt_iconst hE (0 : Int32) wp_md_clearsCase_d63 wt_ci_0 ?_
    refine wt_puti hE wt_lf_md_199 (hD 108 (by decide) (by decide)) wt_L108 rfl (fun q hq => by cases hq; rfl) wp_md_clearsCase_d64 ?_
    cases h
    exact wt_vret hE hR wp_md_clearsCase_d67
  · have h := wt_in c2 h
    refine wt_aload_n hE wp_md_clearsCase_d49 rfl ?_
    refine wt_getr hE (r := 118) wt_lf_md_41 (hD 108 (by decide) (by decide)) wt_L108 rfl wp_md_clearsCase_d50 ?_
    refine wt_iload_n hE wp_md_clearsCase_d53 rfl ?_
    refine wt_iconst hE (0 : Int32) wp_md_clearsCase_d54 wt_ci_0 ?_
    obtain ⟨g3, h⟩ := wt_gd h
    refine wt_iast hE (hD 118 (by decide) (by decide)) wt_L118 g3 wp_md_clearsCase_d55 ?_
    refine wt_iinc hE (s.1 + (1 : Int32)) [some (.ref (wt_ad (wt_xw X) 108)), some (.int (s.1 + (1 : Int32)))] wp_md_clearsCase_d56 (by decide) rfl rfl rfl ?_
    refine wt_goto hE 44 wp_md_clearsCase_d59 rfl ?_
    exact hK44 ((s.1 + (1 : Int32)), (wt_sa s.2 118 (Int32.toNatClampNeg s.1) (0 : Int32))) h
noncomputable def wp_md_clearsCase_B2 (n : Nat) (K2 : Int32 × wt_St → Option (wt_St)) (s : Int32 × wt_St) : Option (wt_St) :=
  if (26 : Int32) ≤ s.1 then
    wt_it (wp_md_clearsCase_B44 n) n ((0 : Int32), s.2)
  else
    if s.1 < 0 ∨ 26 ≤ Int32.toNatClampNeg s.1 then none else
    if s.1 < 0 ∨ 26 ≤ Int32.toNatClampNeg s.1 then none else
    if s.1 < 0 ∨ 26 ≤ Int32.toNatClampNeg s.1 then none else
    if s.1 < 0 ∨ 26 ≤ Int32.toNatClampNeg s.1 then none else
    K2 ((s.1 + (1 : Int32)), (wt_sa (wt_sa (wt_sa (wt_sa s.2 110 (Int32.toNatClampNeg s.1) (0 : Int32)) 112 (Int32.toNatClampNeg s.1) (0 : Int32)) 114 (Int32.toNatClampNeg s.1) (1 : Int32)) 116 (Int32.toNatClampNeg s.1) (-1 : Int32)))
set_option maxRecDepth 100000 in
set_option maxHeartbeats 4000000 in
theorem wp_md_clearsCase_B2_ok  {X : wt_X} {n : Nat} {res : wt_St} (hE : wt_Ok X prog_13_method_18_code 2 "WornTypeModel" 0 0) (hR : wt_Rt X none none res) (hD : ∀ i, 108 ≤ i → i < 321 → wt_dom (wt_xw X) i)  {K2 : Int32 × wt_St → Option (wt_St)} (hK2 : ∀ s : Int32 × wt_St, K2 s = some res → wt_V X 0 s.2 2 [some (.ref (wt_ad (wt_xw X) 108)), some (.int s.1)] []) {s : Int32 × wt_St} (h : wp_md_clearsCase_B2 n K2 s = some res) : wt_V X 0 s.2 2 [some (.ref (wt_ad (wt_xw X) 108)), some (.int s.1)] [] := by
  unfold wp_md_clearsCase_B2 at h
  refine wt_iload_n hE wp_md_clearsCase_d2 rfl ?_
  refine wt_bipush hE (26 : Int32) wp_md_clearsCase_d3 wt_cb_26 ?_
  refine wt_icmp_ge hE 42 wp_md_clearsCase_d5 rfl (fun c1 => ?_) (fun c1 => ?_)
  · have h := wt_ip c1 h
    refine wt_iconst hE (0 : Int32) wp_md_clearsCase_d42 wt_ci_0 ?_
    refine wt_istore_n hE [some (.ref (wt_ad (wt_xw X) 108)), some (.int (0 : Int32))] wp_md_clearsCase_d43 (by decide) rfl ?_
    exact wt_it_ind (fun z => wt_V X 0 z.2 44 [some (.ref (wt_ad (wt_xw X) 108)), some (.int z.1)] []) (fun K hK z h => wp_md_clearsCase_B44_ok hE hR hD hK h) n ((0 : Int32), s.2) h
  · have h := wt_in c1 h
    refine wt_aload_n hE wp_md_clearsCase_d8 rfl ?_
    refine wt_getr hE (r := 110) wt_lf_md_17 (hD 108 (by decide) (by decide)) wt_L108 rfl wp_md_clearsCase_d9 ?_
    refine wt_iload_n hE wp_md_clearsCase_d12 rfl ?_
    refine wt_iconst hE (0 : Int32) wp_md_clearsCase_d13 wt_ci_0 ?_
    obtain ⟨g4, h⟩ := wt_gd h
    refine wt_iast hE (hD 110 (by decide) (by decide)) wt_L110 g4 wp_md_clearsCase_d14 ?_
    refine wt_aload_n hE wp_md_clearsCase_d15 rfl ?_
    refine wt_getr hE (r := 112) wt_lf_md_23 (hD 108 (by decide) (by decide)) wt_L108 rfl wp_md_clearsCase_d16 ?_
    refine wt_iload_n hE wp_md_clearsCase_d19 rfl ?_
    refine wt_iconst hE (0 : Int32) wp_md_clearsCase_d20 wt_ci_0 ?_
    obtain ⟨g5, h⟩ := wt_gd h
    refine wt_iast hE (hD 112 (by decide) (by decide)) wt_L112 g5 wp_md_clearsCase_d21 ?_
    refine wt_aload_n hE wp_md_clearsCase_d22 rfl ?_
    refine wt_getr hE (r := 114) wt_lf_md_29 (hD 108 (by decide) (by decide)) wt_L108 rfl wp_md_clearsCase_d23 ?_
    refine wt_iload_n hE wp_md_clearsCase_d26 rfl ?_
    refine wt_iconst hE (1 : Int32) wp_md_clearsCase_d27 wt_ci_1 ?_
    obtain ⟨g6, h⟩ := wt_gd h
    refine wt_iast hE (hD 114 (by decide) (by decide)) wt_L114 g6 wp_md_clearsCase_d28 ?_
    refine wt_aload_n hE wp_md_clearsCase_d29 rfl ?_
    refine wt_getr hE (r := 116) wt_lf_md_35 (hD 108 (by decide) (by decide)) wt_L108 rfl wp_md_clearsCase_d30 ?_
    refine wt_iload_n hE wp_md_clearsCase_d33 rfl ?_
    refine wt_iconst hE (-1 : Int32) wp_md_clearsCase_d34 wt_ci_m1 ?_
    obtain ⟨g7, h⟩ := wt_gd h
    refine wt_iast hE (hD 116 (by decide) (by decide)) wt_L116 g7 wp_md_clearsCase_d35 ?_
    refine wt_iinc hE (s.1 + (1 : Int32)) [some (.ref (wt_ad (wt_xw X) 108)), some (.int (s.1 + (1 : Int32)))] wp_md_clearsCase_d36 (by decide) rfl rfl rfl ?_
    refine wt_goto hE 2 wp_md_clearsCase_d39 rfl ?_
    exact hK2 ((s.1 + (1 : Int32)), (wt_sa (wt_sa (wt_sa (wt_sa s.2 110 (Int32.toNatClampNeg s.1) (0 : Int32)) 112 (Int32.toNatClampNeg s.1) (0 : Int32)) 114 (Int32.toNatClampNeg s.1) (1 : Int32)) 116 (Int32.toNatClampNeg s.1) (-1 : Int32))) h
noncomputable def wp_md_clearsCase (n : Nat) (σ : wt_St) : Option (wt_St) :=
  wt_it (wp_md_clearsCase_B2 n) n ((0 : Int32), σ)
set_option maxRecDepth 100000 in
set_option maxHeartbeats 4000000 in
theorem wp_md_clearsCase_ok {l : Launch} {w : wt_E} {n : Nat} (hD : ∀ i, 108 ≤ i → i < 321 → wt_dom w i) {σ : wt_St} {q : wt_St} (h : wp_md_clearsCase n σ = some q) : wt_Ctr l w wt_y_md_clearsCase prog_13_method_18_code 2 none 0 [.ref (wt_ad w 108)] σ none q := by
  refine wt_ctr wt_pl_md_clearsCase rfl (Nat.le_of_ble_eq_true rfl) [some (.ref (wt_ad w 108)), none] rfl ?_
  intro X hXl hXw hE hR
  subst hXl
  subst hXw
  have hE : wt_Ok X prog_13_method_18_code 2 "WornTypeModel" 0 0 := hE
  unfold wp_md_clearsCase at h
  refine wt_iconst hE (0 : Int32) wp_md_clearsCase_d0 wt_ci_0 ?_
  refine wt_istore_n hE [some (.ref (wt_ad (wt_xw X) 108)), some (.int (0 : Int32))] wp_md_clearsCase_d1 (by decide) rfl ?_
  exact wt_it_ind (fun z => wt_V X 0 z.2 2 [some (.ref (wt_ad (wt_xw X) 108)), some (.int z.1)] []) (fun K hK z h => wp_md_clearsCase_B2_ok hE hR hD hK h) n ((0 : Int32), σ) h
def wb15m5_prog_13_method_96_code_r1 : List (List Nat) := [2, 172] :: []
def wb15m5_prog_13_method_96_code_r0 : List (List Nat) := [42, 3, 181, 0, 151, 27, 154, 0, 10, 42, 180, 0, 240, 167, 0, 16, 27, 4, 160, 0, 10, 42, 180, 0, 154, 167, 0, 4] :: wb15m5_prog_13_method_96_code_r1
set_option maxRecDepth 100000 in
theorem wb15m5_prog_13_method_96_code_c0 : wt_cs prog_13_method_96_code 0 wb15m5_prog_13_method_96_code_r0 := wt_cs_of (by decide +kernel)
theorem wb15m5_prog_13_method_96_code_c1 : wt_cs prog_13_method_96_code 28 wb15m5_prog_13_method_96_code_r1 := wt_cs_tl (m := 28) wb15m5_prog_13_method_96_code_c0 rfl rfl
theorem wp_md_count_d0 : decode prog_13_method_96_code 0 = .ok (.aload_n 0, 1) := wt_op42 wb15m5_prog_13_method_96_code_c0 0 rfl rfl
theorem wp_md_count_d1 : decode prog_13_method_96_code 1 = .ok (.iconst 0, 1) := wt_op3 wb15m5_prog_13_method_96_code_c0 1 rfl rfl
theorem wp_md_count_d2 : decode prog_13_method_96_code 2 = .ok (.putfield 151, 3) := wt_op181 wb15m5_prog_13_method_96_code_c0 2 rfl rfl rfl
theorem wp_md_count_d5 : decode prog_13_method_96_code 5 = .ok (.iload_n 1, 1) := wt_op27 wb15m5_prog_13_method_96_code_c0 5 rfl rfl
theorem wp_md_count_d6 : decode prog_13_method_96_code 6 = .ok (.ifCond .ne 10, 3) := wt_op154 wb15m5_prog_13_method_96_code_c0 6 rfl rfl rfl
theorem wp_md_count_d9 : decode prog_13_method_96_code 9 = .ok (.aload_n 0, 1) := wt_op42 wb15m5_prog_13_method_96_code_c0 9 rfl rfl
theorem wp_md_count_d10 : decode prog_13_method_96_code 10 = .ok (.getfield 240, 3) := wt_op180 wb15m5_prog_13_method_96_code_c0 10 rfl rfl rfl
theorem wp_md_count_d13 : decode prog_13_method_96_code 13 = .ok (.goto 16, 3) := wt_op167 wb15m5_prog_13_method_96_code_c0 13 rfl rfl rfl
theorem wp_md_count_d16 : decode prog_13_method_96_code 16 = .ok (.iload_n 1, 1) := wt_op27 wb15m5_prog_13_method_96_code_c0 16 rfl rfl
theorem wp_md_count_d17 : decode prog_13_method_96_code 17 = .ok (.iconst 1, 1) := wt_op4 wb15m5_prog_13_method_96_code_c0 17 rfl rfl
theorem wp_md_count_d18 : decode prog_13_method_96_code 18 = .ok (.if_icmp .ne 10, 3) := wt_op160 wb15m5_prog_13_method_96_code_c0 18 rfl rfl rfl
theorem wp_md_count_d21 : decode prog_13_method_96_code 21 = .ok (.aload_n 0, 1) := wt_op42 wb15m5_prog_13_method_96_code_c0 21 rfl rfl
theorem wp_md_count_d22 : decode prog_13_method_96_code 22 = .ok (.getfield 154, 3) := wt_op180 wb15m5_prog_13_method_96_code_c0 22 rfl rfl rfl
theorem wp_md_count_d25 : decode prog_13_method_96_code 25 = .ok (.goto 4, 3) := wt_op167 wb15m5_prog_13_method_96_code_c0 25 rfl rfl rfl
theorem wp_md_count_d28 : decode prog_13_method_96_code 28 = .ok (.iconst (-1), 1) := wt_op2 wb15m5_prog_13_method_96_code_c1 0 rfl rfl
theorem wp_md_count_d29 : decode prog_13_method_96_code 29 = .ok (.ireturn, 1) := wt_op172 wb15m5_prog_13_method_96_code_c1 1 rfl rfl
noncomputable def wp_md_count (n : Nat) (x1 : Int32) (σ : wt_St) : Option (Int32 × wt_St) :=
  if x1 = 0 then
    some ((wt_gf (wt_sf σ 108 0 (0 : Int32)) 108 41), (wt_sf σ 108 0 (0 : Int32)))
  else
    if x1 = (1 : Int32) then
      some ((wt_gf (wt_sf σ 108 0 (0 : Int32)) 108 1), (wt_sf σ 108 0 (0 : Int32)))
    else
      some ((-1 : Int32), (wt_sf σ 108 0 (0 : Int32)))
set_option maxRecDepth 100000 in
set_option maxHeartbeats 4000000 in
theorem wp_md_count_ok {l : Launch} {w : wt_E} {n : Nat} {x1 : Int32} (hD : ∀ i, 108 ≤ i → i < 321 → wt_dom w i) {σ : wt_St} {q : Int32 × wt_St} (h : wp_md_count n x1 σ = some q) : wt_Ctr l w wt_y_md_count prog_13_method_96_code 2 (some .int) 0 [.ref (wt_ad w 108), .int x1] σ (some q.1) q.2 := by
  refine wt_ctr wt_pl_md_count rfl (Nat.le_of_ble_eq_true rfl) [some (.ref (wt_ad w 108)), some (.int x1)] rfl ?_
  intro X hXl hXw hE hR
  subst hXl
  subst hXw
  have hE : wt_Ok X prog_13_method_96_code 2 "WornTypeModel" 0 0 := hE
  unfold wp_md_count at h
  refine wt_aload_n hE wp_md_count_d0 rfl ?_
  refine wt_iconst hE (0 : Int32) wp_md_count_d1 wt_ci_0 ?_
  refine wt_puti hE wt_lf_md_151 (hD 108 (by decide) (by decide)) wt_L108 rfl (fun q hq => by cases hq; rfl) wp_md_count_d2 ?_
  refine wt_iload_n hE wp_md_count_d5 rfl ?_
  refine wt_if_ne hE 16 wp_md_count_d6 rfl (fun c1 => ?_) (fun c1 => ?_)
  · have h := wt_in c1 h
    refine wt_iload_n hE wp_md_count_d16 rfl ?_
    refine wt_iconst hE (1 : Int32) wp_md_count_d17 wt_ci_1 ?_
    refine wt_icmp_ne hE 28 wp_md_count_d18 rfl (fun c2 => ?_) (fun c2 => ?_)
    · have h := wt_in c2 h
      refine wt_iconst hE (-1 : Int32) wp_md_count_d28 wt_ci_m1 ?_
      cases h
      exact wt_iret hE hR wp_md_count_d29
    · have h := wt_ip c2 h
      refine wt_aload_n hE wp_md_count_d21 rfl ?_
      refine wt_geti hE wt_lf_md_154 (hD 108 (by decide) (by decide)) wt_L108 rfl wp_md_count_d22 ?_
      refine wt_goto hE 29 wp_md_count_d25 rfl ?_
      cases h
      exact wt_iret hE hR wp_md_count_d29
  · have h := wt_ip c1 h
    refine wt_aload_n hE wp_md_count_d9 rfl ?_
    refine wt_geti hE wt_lf_md_240 (hD 108 (by decide) (by decide)) wt_L108 rfl wp_md_count_d10 ?_
    refine wt_goto hE 29 wp_md_count_d13 rfl ?_
    cases h
    exact wt_iret hE hR wp_md_count_d29
