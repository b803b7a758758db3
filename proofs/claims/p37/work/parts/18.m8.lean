def wb18m8_prog_13_method_56_code_r2 : List (List Nat) := [28, 172] :: []
def wb18m8_prog_13_method_56_code_r1 : List (List Nat) := [46, 28, 162, 0, 19, 42, 180, 0, 50, 42, 180, 0, 106, 27, 50, 29, 46, 46, 167, 0, 4, 28, 61, 132, 3, 1, 167, 255, 208] :: wb18m8_prog_13_method_56_code_r2
def wb18m8_prog_13_method_56_code_r0 : List (List Nat) := [17, 1, 144, 61, 3, 62, 29, 42, 180, 0, 103, 27, 46, 162, 0, 44, 42, 180, 0, 50, 42, 180, 0, 106, 27, 50, 29, 46] :: wb18m8_prog_13_method_56_code_r1
set_option maxRecDepth 100000 in
theorem wb18m8_prog_13_method_56_code_c0 : wt_cs prog_13_method_56_code 0 wb18m8_prog_13_method_56_code_r0 := wt_cs_of (by decide +kernel)
theorem wb18m8_prog_13_method_56_code_c1 : wt_cs prog_13_method_56_code 28 wb18m8_prog_13_method_56_code_r1 := wt_cs_tl (m := 28) wb18m8_prog_13_method_56_code_c0 rfl rfl
theorem wb18m8_prog_13_method_56_code_c2 : wt_cs prog_13_method_56_code 57 wb18m8_prog_13_method_56_code_r2 := wt_cs_tl (m := 29) wb18m8_prog_13_method_56_code_c1 rfl rfl
theorem wp_md_leastOf_d0 : decode prog_13_method_56_code 0 = .ok (.sipush 400, 3) := wt_op17 wb18m8_prog_13_method_56_code_c0 0 rfl rfl rfl
theorem wp_md_leastOf_d3 : decode prog_13_method_56_code 3 = .ok (.istore_n 2, 1) := wt_op61 wb18m8_prog_13_method_56_code_c0 3 rfl rfl
theorem wp_md_leastOf_d4 : decode prog_13_method_56_code 4 = .ok (.iconst 0, 1) := wt_op3 wb18m8_prog_13_method_56_code_c0 4 rfl rfl
theorem wp_md_leastOf_d5 : decode prog_13_method_56_code 5 = .ok (.istore_n 3, 1) := wt_op62 wb18m8_prog_13_method_56_code_c0 5 rfl rfl
theorem wp_md_leastOf_d6 : decode prog_13_method_56_code 6 = .ok (.iload_n 3, 1) := wt_op29 wb18m8_prog_13_method_56_code_c0 6 rfl rfl
theorem wp_md_leastOf_d7 : decode prog_13_method_56_code 7 = .ok (.aload_n 0, 1) := wt_op42 wb18m8_prog_13_method_56_code_c0 7 rfl rfl
theorem wp_md_leastOf_d8 : decode prog_13_method_56_code 8 = .ok (.getfield 103, 3) := wt_op180 wb18m8_prog_13_method_56_code_c0 8 rfl rfl rfl
theorem wp_md_leastOf_d11 : decode prog_13_method_56_code 11 = .ok (.iload_n 1, 1) := wt_op27 wb18m8_prog_13_method_56_code_c0 11 rfl rfl
theorem wp_md_leastOf_d12 : decode prog_13_method_56_code 12 = .ok (.iaload, 1) := wt_op46 wb18m8_prog_13_method_56_code_c0 12 rfl rfl
theorem wp_md_leastOf_d13 : decode prog_13_method_56_code 13 = .ok (.if_icmp .ge 44, 3) := wt_op162 wb18m8_prog_13_method_56_code_c0 13 rfl rfl rfl
theorem wp_md_leastOf_d16 : decode prog_13_method_56_code 16 = .ok (.aload_n 0, 1) := wt_op42 wb18m8_prog_13_method_56_code_c0 16 rfl rfl
theorem wp_md_leastOf_d17 : decode prog_13_method_56_code 17 = .ok (.getfield 50, 3) := wt_op180 wb18m8_prog_13_method_56_code_c0 17 rfl rfl rfl
theorem wp_md_leastOf_d20 : decode prog_13_method_56_code 20 = .ok (.aload_n 0, 1) := wt_op42 wb18m8_prog_13_method_56_code_c0 20 rfl rfl
theorem wp_md_leastOf_d21 : decode prog_13_method_56_code 21 = .ok (.getfield 106, 3) := wt_op180 wb18m8_prog_13_method_56_code_c0 21 rfl rfl rfl
theorem wp_md_leastOf_d24 : decode prog_13_method_56_code 24 = .ok (.iload_n 1, 1) := wt_op27 wb18m8_prog_13_method_56_code_c0 24 rfl rfl
theorem wp_md_leastOf_d25 : decode prog_13_method_56_code 25 = .ok (.aaload, 1) := wt_op50 wb18m8_prog_13_method_56_code_c0 25 rfl rfl
theorem wp_md_leastOf_d26 : decode prog_13_method_56_code 26 = .ok (.iload_n 3, 1) := wt_op29 wb18m8_prog_13_method_56_code_c0 26 rfl rfl
theorem wp_md_leastOf_d27 : decode prog_13_method_56_code 27 = .ok (.iaload, 1) := wt_op46 wb18m8_prog_13_method_56_code_c0 27 rfl rfl
theorem wp_md_leastOf_d28 : decode prog_13_method_56_code 28 = .ok (.iaload, 1) := wt_op46 wb18m8_prog_13_method_56_code_c1 0 rfl rfl
theorem wp_md_leastOf_d29 : decode prog_13_method_56_code 29 = .ok (.iload_n 2, 1) := wt_op28 wb18m8_prog_13_method_56_code_c1 1 rfl rfl
theorem wp_md_leastOf_d30 : decode prog_13_method_56_code 30 = .ok (.if_icmp .ge 19, 3) := wt_op162 wb18m8_prog_13_method_56_code_c1 2 rfl rfl rfl
theorem wp_md_leastOf_d33 : decode prog_13_method_56_code 33 = .ok (.aload_n 0, 1) := wt_op42 wb18m8_prog_13_method_56_code_c1 5 rfl rfl
theorem wp_md_leastOf_d34 : decode prog_13_method_56_code 34 = .ok (.getfield 50, 3) := wt_op180 wb18m8_prog_13_method_56_code_c1 6 rfl rfl rfl
theorem wp_md_leastOf_d37 : decode prog_13_method_56_code 37 = .ok (.aload_n 0, 1) := wt_op42 wb18m8_prog_13_method_56_code_c1 9 rfl rfl
theorem wp_md_leastOf_d38 : decode prog_13_method_56_code 38 = .ok (.getfield 106, 3) := wt_op180 wb18m8_prog_13_method_56_code_c1 10 rfl rfl rfl
theorem wp_md_leastOf_d41 : decode prog_13_method_56_code 41 = .ok (.iload_n 1, 1) := wt_op27 wb18m8_prog_13_method_56_code_c1 13 rfl rfl
theorem wp_md_leastOf_d42 : decode prog_13_method_56_code 42 = .ok (.aaload, 1) := wt_op50 wb18m8_prog_13_method_56_code_c1 14 rfl rfl
theorem wp_md_leastOf_d43 : decode prog_13_method_56_code 43 = .ok (.iload_n 3, 1) := wt_op29 wb18m8_prog_13_method_56_code_c1 15 rfl rfl
theorem wp_md_leastOf_d44 : decode prog_13_method_56_code 44 = .ok (.iaload, 1) := wt_op46 wb18m8_prog_13_method_56_code_c1 16 rfl rfl
theorem wp_md_leastOf_d45 : decode prog_13_method_56_code 45 = .ok (.iaload, 1) := wt_op46 wb18m8_prog_13_method_56_code_c1 17 rfl rfl
theorem wp_md_leastOf_d46 : decode prog_13_method_56_code 46 = .ok (.goto 4, 3) := wt_op167 wb18m8_prog_13_method_56_code_c1 18 rfl rfl rfl
theorem wp_md_leastOf_d49 : decode prog_13_method_56_code 49 = .ok (.iload_n 2, 1) := wt_op28 wb18m8_prog_13_method_56_code_c1 21 rfl rfl
theorem wp_md_leastOf_d50 : decode prog_13_method_56_code 50 = .ok (.istore_n 2, 1) := wt_op61 wb18m8_prog_13_method_56_code_c1 22 rfl rfl
theorem wp_md_leastOf_d51 : decode prog_13_method_56_code 51 = .ok (.iinc 3 1, 3) := wt_op132 wb18m8_prog_13_method_56_code_c1 23 rfl rfl rfl
theorem wp_md_leastOf_d54 : decode prog_13_method_56_code 54 = .ok (.goto (-48), 3) := wt_op167 wb18m8_prog_13_method_56_code_c1 26 rfl rfl rfl
theorem wp_md_leastOf_d57 : decode prog_13_method_56_code 57 = .ok (.iload_n 2, 1) := wt_op28 wb18m8_prog_13_method_56_code_c2 0 rfl rfl
theorem wp_md_leastOf_d58 : decode prog_13_method_56_code 58 = .ok (.ireturn, 1) := wt_op172 wb18m8_prog_13_method_56_code_c2 1 rfl rfl
noncomputable def wp_md_leastOf_B50 (n : Nat) (x1 : Int32) (x3 : Int32) (K6 : Int32 × Int32 × wt_St → Option (Int32 × wt_St)) (y0 : Int32) (σ : wt_St) : Option (Int32 × wt_St) :=
  K6 (y0, (x3 + (1 : Int32)), σ)
set_option maxRecDepth 100000 in
set_option maxHeartbeats 4000000 in
theorem wp_md_leastOf_B50_ok  {x1 : Int32} {x3 : Int32} {X : wt_X} {n : Nat} {res : Int32 × wt_St} (hE : wt_Ok X prog_13_method_56_code 4 "WornTypeModel" 0 0) (hR : wt_Rt X (some .int) (some res.1) res.2) (hD : ∀ i, 108 ≤ i → i < 321 → wt_dom (wt_xw X) i)  {K6 : Int32 × Int32 × wt_St → Option (Int32 × wt_St)} (hK6 : ∀ s : Int32 × Int32 × wt_St, K6 s = some res → wt_V X 0 s.2.2 6 [some (.ref (wt_ad (wt_xw X) 108)), some (.int x1), some (.int s.1), some (.int s.2.1)] []) {σ : wt_St} {y0 : Int32} (h : wp_md_leastOf_B50 n x1 x3 K6 y0 σ = some res) : wt_V X 0 σ 50 [some (.ref (wt_ad (wt_xw X) 108)), some (.int x1), none, some (.int x3)] [.int y0] := by
  unfold wp_md_leastOf_B50 at h
  refine wt_istore_n hE [some (.ref (wt_ad (wt_xw X) 108)), some (.int x1), some (.int y0), some (.int x3)] wp_md_leastOf_d50 (by decide) rfl ?_
  refine wt_iinc hE (x3 + (1 : Int32)) [some (.ref (wt_ad (wt_xw X) 108)), some (.int x1), some (.int y0), some (.int (x3 + (1 : Int32)))] wp_md_leastOf_d51 (by decide) rfl rfl rfl ?_
  refine wt_goto hE 6 wp_md_leastOf_d54 rfl ?_
  exact hK6 (y0, (x3 + (1 : Int32)), σ) h
noncomputable def wp_md_leastOf_B6 (n : Nat) (x1 : Int32) (K6 : Int32 × Int32 × wt_St → Option (Int32 × wt_St)) (s : Int32 × Int32 × wt_St) : Option (Int32 × wt_St) :=
  if x1 < 0 ∨ 4 ≤ Int32.toNatClampNeg x1 then none else
  if (wt_ga s.2.2 276 (Int32.toNatClampNeg x1)) ≤ s.2.1 then
    some (s.1, s.2.2)
  else
    if x1 < 0 ∨ 4 ≤ Int32.toNatClampNeg x1 then none else
    if s.2.1 < 0 ∨ 108 ≤ Int32.toNatClampNeg s.2.1 then none else
    if (wt_ga s.2.2 (278 + Int32.toNatClampNeg x1) (Int32.toNatClampNeg s.2.1)) < 0 ∨ 338 ≤ Int32.toNatClampNeg (wt_ga s.2.2 (278 + Int32.toNatClampNeg x1) (Int32.toNatClampNeg s.2.1)) then none else
    if s.1 ≤ (wt_ga s.2.2 121 (Int32.toNatClampNeg (wt_ga s.2.2 (278 + Int32.toNatClampNeg x1) (Int32.toNatClampNeg s.2.1)))) then
      wp_md_leastOf_B50 n x1 s.2.1 K6 s.1 s.2.2
    else
      if x1 < 0 ∨ 4 ≤ Int32.toNatClampNeg x1 then none else
      if s.2.1 < 0 ∨ 108 ≤ Int32.toNatClampNeg s.2.1 then none else
      if (wt_ga s.2.2 (278 + Int32.toNatClampNeg x1) (Int32.toNatClampNeg s.2.1)) < 0 ∨ 338 ≤ Int32.toNatClampNeg (wt_ga s.2.2 (278 + Int32.toNatClampNeg x1) (Int32.toNatClampNeg s.2.1)) then none else
      wp_md_leastOf_B50 n x1 s.2.1 K6 (wt_ga s.2.2 121 (Int32.toNatClampNeg (wt_ga s.2.2 (278 + Int32.toNatClampNeg x1) (Int32.toNatClampNeg s.2.1)))) s.2.2
set_option maxRecDepth 100000 in
set_option maxHeartbeats 4000000 in
theorem wp_md_leastOf_B6_ok  {x1 : Int32} {X : wt_X} {n : Nat} {res : Int32 × wt_St} (hE : wt_Ok X prog_13_method_56_code 4 "WornTypeModel" 0 0) (hR : wt_Rt X (some .int) (some res.1) res.2) (hD : ∀ i, 108 ≤ i → i < 321 → wt_dom (wt_xw X) i)  {K6 : Int32 × Int32 × wt_St → Option (Int32 × wt_St)} (hK6 : ∀ s : Int32 × Int32 × wt_St, K6 s = some res → wt_V X 0 s.2.2 6 [some (.ref (wt_ad (wt_xw X) 108)), some (.int x1), some (.int s.1), some (.int s.2.1)] []) {s : Int32 × Int32 × wt_St} (h : wp_md_leastOf_B6 n x1 K6 s = some res) : wt_V X 0 s.2.2 6 [some (.ref (wt_ad (wt_xw X) 108)), some (.int x1), some (.int s.1), some (.int s.2.1)] [] := by
  unfold wp_md_leastOf_B6 at h
  refine wt_iload_n hE wp_md_leastOf_d6 rfl ?_
  refine wt_aload_n hE wp_md_leastOf_d7 rfl ?_
  refine wt_getr hE (r := 276) wt_lf_md_103 (hD 108 (by decide) (by decide)) wt_L108 rfl wp_md_leastOf_d8 ?_
  refine wt_iload_n hE wp_md_leastOf_d11 rfl ?_
  obtain ⟨g1, h⟩ := wt_gd h
  refine wt_iald hE (hD 276 (by decide) (by decide)) wt_L276 g1 wp_md_leastOf_d12 ?_
  refine wt_icmp_ge hE 57 wp_md_leastOf_d13 rfl (fun c2 => ?_) (fun c2 => ?_)
  · have h := wt_ip c2 h
    refine wt_iload_n hE wp_md_leastOf_d57 rfl ?_
    cases h
    exact wt_iret hE hR wp_md_leastOf_d58
  · have h := wt_in c2 h
    refine wt_aload_n hE wp_md_leastOf_d16 rfl ?_
    refine wt_getr hE (r := 121) wt_lf_md_50 (hD 108 (by decide) (by decide)) wt_L108 rfl wp_md_leastOf_d17 ?_
    refine wt_aload_n hE wp_md_leastOf_d20 rfl ?_
    refine wt_getr hE (r := 277) wt_lf_md_106 (hD 108 (by decide) (by decide)) wt_L108 rfl wp_md_leastOf_d21 ?_
    refine wt_iload_n hE wp_md_leastOf_d24 rfl ?_
    obtain ⟨g3, h⟩ := wt_gd h
    have lg3 := wt_lt g3
    refine wt_aald1 hE (hD 277 (by decide) (by decide)) wt_L277 g3 wp_md_leastOf_d25 ?_
    refine wt_iload_n hE wp_md_leastOf_d26 rfl ?_
    obtain ⟨g4, h⟩ := wt_gd h
    refine wt_iald hE (hD _ (by omega) (by omega)) (wt_G278 _ lg3) g4 wp_md_leastOf_d27 ?_
    obtain ⟨g5, h⟩ := wt_gd h
    refine wt_iald hE (hD 121 (by decide) (by decide)) wt_L121 g5 wp_md_leastOf_d28 ?_
    refine wt_iload_n hE wp_md_leastOf_d29 rfl ?_
    refine wt_icmp_ge hE 49 wp_md_leastOf_d30 rfl (fun c6 => ?_) (fun c6 => ?_)
    · have h := wt_ip c6 h
      refine wt_iload_n hE wp_md_leastOf_d49 rfl ?_
      refine wt_wk [true, true, false, true] rfl ?_
      exact wp_md_leastOf_B50_ok hE hR hD hK6 h
    · have h := wt_in c6 h
      refine wt_aload_n hE wp_md_leastOf_d33 rfl ?_
      refine wt_getr hE (r := 121) wt_lf_md_50 (hD 108 (by decide) (by decide)) wt_L108 rfl wp_md_leastOf_d34 ?_
      refine wt_aload_n hE wp_md_leastOf_d37 rfl ?_
      refine wt_getr hE (r := 277) wt_lf_md_106 (hD 108 (by decide) (by decide)) wt_L108 rfl wp_md_leastOf_d38 ?_
      refine wt_iload_n hE wp_md_leastOf_d41 rfl ?_
      obtain ⟨g7, h⟩ := wt_gd h
      have lg7 := wt_lt g7
      refine wt_aald1 hE (hD 277 (by decide) (by decide)) wt_L277 g7 wp_md_leastOf_d42 ?_
      refine wt_iload_n hE wp_md_leastOf_d43 rfl ?_
      obtain ⟨g8, h⟩ := wt_gd h
      refine wt_iald hE (hD _ (by omega) (by omega)) (wt_G278 _ lg7) g8 wp_md_leastOf_d44 ?_
      obtain ⟨g9, h⟩ := wt_gd h
      refine wt_iald hE (hD 121 (by decide) (by decide)) wt_L121 g9 wp_md_leastOf_d45 ?_
      refine wt_goto hE 50 wp_md_leastOf_d46 rfl ?_
      refine wt_wk [true, true, false, true] rfl ?_
      exact wp_md_leastOf_B50_ok hE hR hD hK6 h
noncomputable def wp_md_leastOf (n : Nat) (x1 : Int32) (σ : wt_St) : Option (Int32 × wt_St) :=
  wt_it (wp_md_leastOf_B6 n x1) n ((400 : Int32), (0 : Int32), σ)
set_option maxRecDepth 100000 in
set_option maxHeartbeats 4000000 in
theorem wp_md_leastOf_ok {l : Launch} {w : wt_E} {n : Nat} {x1 : Int32} (hD : ∀ i, 108 ≤ i → i < 321 → wt_dom w i) {σ : wt_St} {q : Int32 × wt_St} (h : wp_md_leastOf n x1 σ = some q) : wt_Ctr l w wt_y_md_leastOf prog_13_method_56_code 4 (some .int) 0 [.ref (wt_ad w 108), .int x1] σ (some q.1) q.2 := by
  refine wt_ctr wt_pl_md_leastOf rfl (Nat.le_of_ble_eq_true rfl) [some (.ref (wt_ad w 108)), some (.int x1), none, none] rfl ?_
  intro X hXl hXw hE hR
  subst hXl
  subst hXw
  have hE : wt_Ok X prog_13_method_56_code 4 "WornTypeModel" 0 0 := hE
  unfold wp_md_leastOf at h
  refine wt_sipush hE (400 : Int32) wp_md_leastOf_d0 wt_cs_400 ?_
  refine wt_istore_n hE [some (.ref (wt_ad (wt_xw X) 108)), some (.int x1), some (.int (400 : Int32)), none] wp_md_leastOf_d3 (by decide) rfl ?_
  refine wt_iconst hE (0 : Int32) wp_md_leastOf_d4 wt_ci_0 ?_
  refine wt_istore_n hE [some (.ref (wt_ad (wt_xw X) 108)), some (.int x1), some (.int (400 : Int32)), some (.int (0 : Int32))] wp_md_leastOf_d5 (by decide) rfl ?_
  exact wt_it_ind (fun z => wt_V X 0 z.2.2 6 [some (.ref (wt_ad (wt_xw X) 108)), some (.int x1), some (.int z.1), some (.int z.2.1)] []) (fun K hK z h => wp_md_leastOf_B6_ok hE hR hD hK h) n ((400 : Int32), (0 : Int32), σ) h
def wb18m8_prog_13_method_33_code_r7 : List (List Nat) := [27, 46, 172, 42, 180, 0, 26, 27, 46, 172] :: []
def wb18m8_prog_13_method_33_code_r6 : List (List Nat) := [42, 180, 0, 20, 27, 46, 172, 29, 172, 21, 4, 172, 21, 5, 172, 21, 6, 172, 42, 180, 0, 32, 27, 46, 172, 42, 180, 0, 38] :: wb18m8_prog_13_method_33_code_r7
def wb18m8_prog_13_method_33_code_r5 : List (List Nat) := [28, 170, 0, 0, 0, 73, 0, 0, 0, 0, 0, 0, 0, 6, 0, 0, 0, 41, 0, 0, 0, 48, 0, 0, 0, 50, 0, 0, 0, 53, 0, 0, 0, 56, 0, 0, 0, 59, 0, 0, 0, 66] :: wb18m8_prog_13_method_33_code_r6
def wb18m8_prog_13_method_33_code_r4 : List (List Nat) := [167, 0, 5, 21, 5, 54, 5, 21, 6, 21, 8, 154, 0, 7, 4, 167, 0, 4, 3, 96, 54, 6, 132, 7, 1, 167, 255, 168] :: wb18m8_prog_13_method_33_code_r5
def wb18m8_prog_13_method_33_code_r3 : List (List Nat) := [46, 2, 160, 0, 7, 4, 167, 0, 4, 3, 96, 62, 21, 4, 21, 8, 96, 54, 4, 21, 8, 21, 5, 164, 0, 8, 21, 8] :: wb18m8_prog_13_method_33_code_r4
def wb18m8_prog_13_method_33_code_r2 : List (List Nat) := [27, 46, 162, 0, 83, 42, 180, 0, 50, 27, 21, 7, 184, 0, 227, 46, 54, 8, 29, 42, 180, 0, 59, 27, 21, 7, 184, 0, 227] :: wb18m8_prog_13_method_33_code_r3
def wb18m8_prog_13_method_33_code_r1 : List (List Nat) := [4, 182, 0, 230, 153, 0, 5, 3, 172, 3, 62, 3, 54, 4, 3, 54, 5, 3, 54, 6, 3, 54, 7, 21, 7, 42, 180, 0, 20] :: wb18m8_prog_13_method_33_code_r2
def wb18m8_prog_13_method_33_code_r0 : List (List Nat) := [42, 3, 181, 0, 151, 42, 27, 184, 1, 24, 153, 0, 13, 28, 3, 16, 7, 184, 0, 185, 154, 0, 7, 4, 167, 0, 4, 3] :: wb18m8_prog_13_method_33_code_r1
set_option maxRecDepth 100000 in
theorem wb18m8_prog_13_method_33_code_c0 : wt_cs prog_13_method_33_code 0 wb18m8_prog_13_method_33_code_r0 := wt_cs_of (by decide +kernel)
theorem wb18m8_prog_13_method_33_code_c1 : wt_cs prog_13_method_33_code 28 wb18m8_prog_13_method_33_code_r1 := wt_cs_tl (m := 28) wb18m8_prog_13_method_33_code_c0 rfl rfl
theorem wb18m8_prog_13_method_33_code_c2 : wt_cs prog_13_method_33_code 57 wb18m8_prog_13_method_33_code_r2 := wt_cs_tl (m := 29) wb18m8_prog_13_method_33_code_c1 rfl rfl
theorem wb18m8_prog_13_method_33_code_c3 : wt_cs prog_13_method_33_code 86 wb18m8_prog_13_method_33_code_r3 := wt_cs_tl (m := 29) wb18m8_prog_13_method_33_code_c2 rfl rfl
theorem wb18m8_prog_13_method_33_code_c4 : wt_cs prog_13_method_33_code 114 wb18m8_prog_13_method_33_code_r4 := wt_cs_tl (m := 28) wb18m8_prog_13_method_33_code_c3 rfl rfl
theorem wb18m8_prog_13_method_33_code_c5 : wt_cs prog_13_method_33_code 142 wb18m8_prog_13_method_33_code_r5 := wt_cs_tl (m := 28) wb18m8_prog_13_method_33_code_c4 rfl rfl
theorem wb18m8_prog_13_method_33_code_c6 : wt_cs prog_13_method_33_code 184 wb18m8_prog_13_method_33_code_r6 := wt_cs_tl (m := 42) wb18m8_prog_13_method_33_code_c5 rfl rfl
theorem wb18m8_prog_13_method_33_code_c7 : wt_cs prog_13_method_33_code 213 wb18m8_prog_13_method_33_code_r7 := wt_cs_tl (m := 29) wb18m8_prog_13_method_33_code_c6 rfl rfl
theorem wp_md_letter_d0 : decode prog_13_method_33_code 0 = .ok (.aload_n 0, 1) := wt_op42 wb18m8_prog_13_method_33_code_c0 0 rfl rfl
theorem wp_md_letter_d1 : decode prog_13_method_33_code 1 = .ok (.iconst 0, 1) := wt_op3 wb18m8_prog_13_method_33_code_c0 1 rfl rfl
theorem wp_md_letter_d2 : decode prog_13_method_33_code 2 = .ok (.putfield 151, 3) := wt_op181 wb18m8_prog_13_method_33_code_c0 2 rfl rfl rfl
theorem wp_md_letter_d5 : decode prog_13_method_33_code 5 = .ok (.aload_n 0, 1) := wt_op42 wb18m8_prog_13_method_33_code_c0 5 rfl rfl
theorem wp_md_letter_d6 : decode prog_13_method_33_code 6 = .ok (.iload_n 1, 1) := wt_op27 wb18m8_prog_13_method_33_code_c0 6 rfl rfl
theorem wp_md_letter_d7 : decode prog_13_method_33_code 7 = .ok (.invokestatic 280, 3) := wt_op184 wb18m8_prog_13_method_33_code_c0 7 rfl rfl rfl
theorem wp_md_letter_d10 : decode prog_13_method_33_code 10 = .ok (.ifCond .eq 13, 3) := wt_op153 wb18m8_prog_13_method_33_code_c0 10 rfl rfl rfl
theorem wp_md_letter_d13 : decode prog_13_method_33_code 13 = .ok (.iload_n 2, 1) := wt_op28 wb18m8_prog_13_method_33_code_c0 13 rfl rfl
theorem wp_md_letter_d14 : decode prog_13_method_33_code 14 = .ok (.iconst 0, 1) := wt_op3 wb18m8_prog_13_method_33_code_c0 14 rfl rfl
theorem wp_md_letter_d15 : decode prog_13_method_33_code 15 = .ok (.bipush 7, 2) := wt_op16 wb18m8_prog_13_method_33_code_c0 15 rfl rfl rfl
theorem wp_md_letter_d17 : decode prog_13_method_33_code 17 = .ok (.invokestatic 185, 3) := wt_op184 wb18m8_prog_13_method_33_code_c0 17 rfl rfl rfl
theorem wp_md_letter_d20 : decode prog_13_method_33_code 20 = .ok (.ifCond .ne 7, 3) := wt_op154 wb18m8_prog_13_method_33_code_c0 20 rfl rfl rfl
theorem wp_md_letter_d23 : decode prog_13_method_33_code 23 = .ok (.iconst 1, 1) := wt_op4 wb18m8_prog_13_method_33_code_c0 23 rfl rfl
theorem wp_md_letter_d24 : decode prog_13_method_33_code 24 = .ok (.goto 4, 3) := wt_op167 wb18m8_prog_13_method_33_code_c0 24 rfl rfl rfl
theorem wp_md_letter_d27 : decode prog_13_method_33_code 27 = .ok (.iconst 0, 1) := wt_op3 wb18m8_prog_13_method_33_code_c0 27 rfl rfl
theorem wp_md_letter_d28 : decode prog_13_method_33_code 28 = .ok (.iconst 1, 1) := wt_op4 wb18m8_prog_13_method_33_code_c1 0 rfl rfl
theorem wp_md_letter_d29 : decode prog_13_method_33_code 29 = .ok (.invokevirtual 230, 3) := wt_op182 wb18m8_prog_13_method_33_code_c1 1 rfl rfl rfl
theorem wp_md_letter_d32 : decode prog_13_method_33_code 32 = .ok (.ifCond .eq 5, 3) := wt_op153 wb18m8_prog_13_method_33_code_c1 4 rfl rfl rfl
theorem wp_md_letter_d35 : decode prog_13_method_33_code 35 = .ok (.iconst 0, 1) := wt_op3 wb18m8_prog_13_method_33_code_c1 7 rfl rfl
theorem wp_md_letter_d36 : decode prog_13_method_33_code 36 = .ok (.ireturn, 1) := wt_op172 wb18m8_prog_13_method_33_code_c1 8 rfl rfl
theorem wp_md_letter_d37 : decode prog_13_method_33_code 37 = .ok (.iconst 0, 1) := wt_op3 wb18m8_prog_13_method_33_code_c1 9 rfl rfl
theorem wp_md_letter_d38 : decode prog_13_method_33_code 38 = .ok (.istore_n 3, 1) := wt_op62 wb18m8_prog_13_method_33_code_c1 10 rfl rfl
theorem wp_md_letter_d39 : decode prog_13_method_33_code 39 = .ok (.iconst 0, 1) := wt_op3 wb18m8_prog_13_method_33_code_c1 11 rfl rfl
theorem wp_md_letter_d40 : decode prog_13_method_33_code 40 = .ok (.istore 4, 2) := wt_op54 wb18m8_prog_13_method_33_code_c1 12 rfl rfl
theorem wp_md_letter_d42 : decode prog_13_method_33_code 42 = .ok (.iconst 0, 1) := wt_op3 wb18m8_prog_13_method_33_code_c1 14 rfl rfl
theorem wp_md_letter_d43 : decode prog_13_method_33_code 43 = .ok (.istore 5, 2) := wt_op54 wb18m8_prog_13_method_33_code_c1 15 rfl rfl
theorem wp_md_letter_d45 : decode prog_13_method_33_code 45 = .ok (.iconst 0, 1) := wt_op3 wb18m8_prog_13_method_33_code_c1 17 rfl rfl
theorem wp_md_letter_d46 : decode prog_13_method_33_code 46 = .ok (.istore 6, 2) := wt_op54 wb18m8_prog_13_method_33_code_c1 18 rfl rfl
theorem wp_md_letter_d48 : decode prog_13_method_33_code 48 = .ok (.iconst 0, 1) := wt_op3 wb18m8_prog_13_method_33_code_c1 20 rfl rfl
theorem wp_md_letter_d49 : decode prog_13_method_33_code 49 = .ok (.istore 7, 2) := wt_op54 wb18m8_prog_13_method_33_code_c1 21 rfl rfl
theorem wp_md_letter_d51 : decode prog_13_method_33_code 51 = .ok (.iload 7, 2) := wt_op21 wb18m8_prog_13_method_33_code_c1 23 rfl rfl
theorem wp_md_letter_d53 : decode prog_13_method_33_code 53 = .ok (.aload_n 0, 1) := wt_op42 wb18m8_prog_13_method_33_code_c1 25 rfl rfl
theorem wp_md_letter_d54 : decode prog_13_method_33_code 54 = .ok (.getfield 20, 3) := wt_op180 wb18m8_prog_13_method_33_code_c1 26 rfl rfl rfl
theorem wp_md_letter_d57 : decode prog_13_method_33_code 57 = .ok (.iload_n 1, 1) := wt_op27 wb18m8_prog_13_method_33_code_c2 0 rfl rfl
theorem wp_md_letter_d58 : decode prog_13_method_33_code 58 = .ok (.iaload, 1) := wt_op46 wb18m8_prog_13_method_33_code_c2 1 rfl rfl
theorem wp_md_letter_d59 : decode prog_13_method_33_code 59 = .ok (.if_icmp .ge 83, 3) := wt_op162 wb18m8_prog_13_method_33_code_c2 2 rfl rfl rfl
theorem wp_md_letter_d62 : decode prog_13_method_33_code 62 = .ok (.aload_n 0, 1) := wt_op42 wb18m8_prog_13_method_33_code_c2 5 rfl rfl
theorem wp_md_letter_d63 : decode prog_13_method_33_code 63 = .ok (.getfield 50, 3) := wt_op180 wb18m8_prog_13_method_33_code_c2 6 rfl rfl rfl
theorem wp_md_letter_d66 : decode prog_13_method_33_code 66 = .ok (.iload_n 1, 1) := wt_op27 wb18m8_prog_13_method_33_code_c2 9 rfl rfl
theorem wp_md_letter_d67 : decode prog_13_method_33_code 67 = .ok (.iload 7, 2) := wt_op21 wb18m8_prog_13_method_33_code_c2 10 rfl rfl
theorem wp_md_letter_d69 : decode prog_13_method_33_code 69 = .ok (.invokestatic 227, 3) := wt_op184 wb18m8_prog_13_method_33_code_c2 12 rfl rfl rfl
theorem wp_md_letter_d72 : decode prog_13_method_33_code 72 = .ok (.iaload, 1) := wt_op46 wb18m8_prog_13_method_33_code_c2 15 rfl rfl
theorem wp_md_letter_d73 : decode prog_13_method_33_code 73 = .ok (.istore 8, 2) := wt_op54 wb18m8_prog_13_method_33_code_c2 16 rfl rfl
theorem wp_md_letter_d75 : decode prog_13_method_33_code 75 = .ok (.iload_n 3, 1) := wt_op29 wb18m8_prog_13_method_33_code_c2 18 rfl rfl
theorem wp_md_letter_d76 : decode prog_13_method_33_code 76 = .ok (.aload_n 0, 1) := wt_op42 wb18m8_prog_13_method_33_code_c2 19 rfl rfl
theorem wp_md_letter_d77 : decode prog_13_method_33_code 77 = .ok (.getfield 59, 3) := wt_op180 wb18m8_prog_13_method_33_code_c2 20 rfl rfl rfl
theorem wp_md_letter_d80 : decode prog_13_method_33_code 80 = .ok (.iload_n 1, 1) := wt_op27 wb18m8_prog_13_method_33_code_c2 23 rfl rfl
theorem wp_md_letter_d81 : decode prog_13_method_33_code 81 = .ok (.iload 7, 2) := wt_op21 wb18m8_prog_13_method_33_code_c2 24 rfl rfl
theorem wp_md_letter_d83 : decode prog_13_method_33_code 83 = .ok (.invokestatic 227, 3) := wt_op184 wb18m8_prog_13_method_33_code_c2 26 rfl rfl rfl
theorem wp_md_letter_d86 : decode prog_13_method_33_code 86 = .ok (.iaload, 1) := wt_op46 wb18m8_prog_13_method_33_code_c3 0 rfl rfl
theorem wp_md_letter_d87 : decode prog_13_method_33_code 87 = .ok (.iconst (-1), 1) := wt_op2 wb18m8_prog_13_method_33_code_c3 1 rfl rfl
theorem wp_md_letter_d88 : decode prog_13_method_33_code 88 = .ok (.if_icmp .ne 7, 3) := wt_op160 wb18m8_prog_13_method_33_code_c3 2 rfl rfl rfl
theorem wp_md_letter_d91 : decode prog_13_method_33_code 91 = .ok (.iconst 1, 1) := wt_op4 wb18m8_prog_13_method_33_code_c3 5 rfl rfl
theorem wp_md_letter_d92 : decode prog_13_method_33_code 92 = .ok (.goto 4, 3) := wt_op167 wb18m8_prog_13_method_33_code_c3 6 rfl rfl rfl
theorem wp_md_letter_d95 : decode prog_13_method_33_code 95 = .ok (.iconst 0, 1) := wt_op3 wb18m8_prog_13_method_33_code_c3 9 rfl rfl
theorem wp_md_letter_d96 : decode prog_13_method_33_code 96 = .ok (.iadd, 1) := wt_op96 wb18m8_prog_13_method_33_code_c3 10 rfl rfl
theorem wp_md_letter_d97 : decode prog_13_method_33_code 97 = .ok (.istore_n 3, 1) := wt_op62 wb18m8_prog_13_method_33_code_c3 11 rfl rfl
theorem wp_md_letter_d98 : decode prog_13_method_33_code 98 = .ok (.iload 4, 2) := wt_op21 wb18m8_prog_13_method_33_code_c3 12 rfl rfl
theorem wp_md_letter_d100 : decode prog_13_method_33_code 100 = .ok (.iload 8, 2) := wt_op21 wb18m8_prog_13_method_33_code_c3 14 rfl rfl
theorem wp_md_letter_d102 : decode prog_13_method_33_code 102 = .ok (.iadd, 1) := wt_op96 wb18m8_prog_13_method_33_code_c3 16 rfl rfl
theorem wp_md_letter_d103 : decode prog_13_method_33_code 103 = .ok (.istore 4, 2) := wt_op54 wb18m8_prog_13_method_33_code_c3 17 rfl rfl
theorem wp_md_letter_d105 : decode prog_13_method_33_code 105 = .ok (.iload 8, 2) := wt_op21 wb18m8_prog_13_method_33_code_c3 19 rfl rfl
theorem wp_md_letter_d107 : decode prog_13_method_33_code 107 = .ok (.iload 5, 2) := wt_op21 wb18m8_prog_13_method_33_code_c3 21 rfl rfl
theorem wp_md_letter_d109 : decode prog_13_method_33_code 109 = .ok (.if_icmp .le 8, 3) := wt_op164 wb18m8_prog_13_method_33_code_c3 23 rfl rfl rfl
theorem wp_md_letter_d112 : decode prog_13_method_33_code 112 = .ok (.iload 8, 2) := wt_op21 wb18m8_prog_13_method_33_code_c3 26 rfl rfl
theorem wp_md_letter_d114 : decode prog_13_method_33_code 114 = .ok (.goto 5, 3) := wt_op167 wb18m8_prog_13_method_33_code_c4 0 rfl rfl rfl
theorem wp_md_letter_d117 : decode prog_13_method_33_code 117 = .ok (.iload 5, 2) := wt_op21 wb18m8_prog_13_method_33_code_c4 3 rfl rfl
theorem wp_md_letter_d119 : decode prog_13_method_33_code 119 = .ok (.istore 5, 2) := wt_op54 wb18m8_prog_13_method_33_code_c4 5 rfl rfl
theorem wp_md_letter_d121 : decode prog_13_method_33_code 121 = .ok (.iload 6, 2) := wt_op21 wb18m8_prog_13_method_33_code_c4 7 rfl rfl
theorem wp_md_letter_d123 : decode prog_13_method_33_code 123 = .ok (.iload 8, 2) := wt_op21 wb18m8_prog_13_method_33_code_c4 9 rfl rfl
theorem wp_md_letter_d125 : decode prog_13_method_33_code 125 = .ok (.ifCond .ne 7, 3) := wt_op154 wb18m8_prog_13_method_33_code_c4 11 rfl rfl rfl
theorem wp_md_letter_d128 : decode prog_13_method_33_code 128 = .ok (.iconst 1, 1) := wt_op4 wb18m8_prog_13_method_33_code_c4 14 rfl rfl
theorem wp_md_letter_d129 : decode prog_13_method_33_code 129 = .ok (.goto 4, 3) := wt_op167 wb18m8_prog_13_method_33_code_c4 15 rfl rfl rfl
theorem wp_md_letter_d132 : decode prog_13_method_33_code 132 = .ok (.iconst 0, 1) := wt_op3 wb18m8_prog_13_method_33_code_c4 18 rfl rfl
theorem wp_md_letter_d133 : decode prog_13_method_33_code 133 = .ok (.iadd, 1) := wt_op96 wb18m8_prog_13_method_33_code_c4 19 rfl rfl
theorem wp_md_letter_d134 : decode prog_13_method_33_code 134 = .ok (.istore 6, 2) := wt_op54 wb18m8_prog_13_method_33_code_c4 20 rfl rfl
theorem wp_md_letter_d136 : decode prog_13_method_33_code 136 = .ok (.iinc 7 1, 3) := wt_op132 wb18m8_prog_13_method_33_code_c4 22 rfl rfl rfl
theorem wp_md_letter_d139 : decode prog_13_method_33_code 139 = .ok (.goto (-88), 3) := wt_op167 wb18m8_prog_13_method_33_code_c4 25 rfl rfl rfl
theorem wp_md_letter_d142 : decode prog_13_method_33_code 142 = .ok (.iload_n 2, 1) := wt_op28 wb18m8_prog_13_method_33_code_c5 0 rfl rfl
theorem wp_md_letter_d143 : decode prog_13_method_33_code 143 = .ok (.tableswitch 73 0 6 #[41, 48, 50, 53, 56, 59, 66], 41) := by decide +kernel
theorem wp_md_letter_d184 : decode prog_13_method_33_code 184 = .ok (.aload_n 0, 1) := wt_op42 wb18m8_prog_13_method_33_code_c6 0 rfl rfl
theorem wp_md_letter_d185 : decode prog_13_method_33_code 185 = .ok (.getfield 20, 3) := wt_op180 wb18m8_prog_13_method_33_code_c6 1 rfl rfl rfl
theorem wp_md_letter_d188 : decode prog_13_method_33_code 188 = .ok (.iload_n 1, 1) := wt_op27 wb18m8_prog_13_method_33_code_c6 4 rfl rfl
theorem wp_md_letter_d189 : decode prog_13_method_33_code 189 = .ok (.iaload, 1) := wt_op46 wb18m8_prog_13_method_33_code_c6 5 rfl rfl
theorem wp_md_letter_d190 : decode prog_13_method_33_code 190 = .ok (.ireturn, 1) := wt_op172 wb18m8_prog_13_method_33_code_c6 6 rfl rfl
theorem wp_md_letter_d191 : decode prog_13_method_33_code 191 = .ok (.iload_n 3, 1) := wt_op29 wb18m8_prog_13_method_33_code_c6 7 rfl rfl
theorem wp_md_letter_d192 : decode prog_13_method_33_code 192 = .ok (.ireturn, 1) := wt_op172 wb18m8_prog_13_method_33_code_c6 8 rfl rfl
theorem wp_md_letter_d193 : decode prog_13_method_33_code 193 = .ok (.iload 4, 2) := wt_op21 wb18m8_prog_13_method_33_code_c6 9 rfl rfl
theorem wp_md_letter_d195 : decode prog_13_method_33_code 195 = .ok (.ireturn, 1) := wt_op172 wb18m8_prog_13_method_33_code_c6 11 rfl rfl
theorem wp_md_letter_d196 : decode prog_13_method_33_code 196 = .ok (.iload 5, 2) := wt_op21 wb18m8_prog_13_method_33_code_c6 12 rfl rfl
theorem wp_md_letter_d198 : decode prog_13_method_33_code 198 = .ok (.ireturn, 1) := wt_op172 wb18m8_prog_13_method_33_code_c6 14 rfl rfl
theorem wp_md_letter_d199 : decode prog_13_method_33_code 199 = .ok (.iload 6, 2) := wt_op21 wb18m8_prog_13_method_33_code_c6 15 rfl rfl
theorem wp_md_letter_d201 : decode prog_13_method_33_code 201 = .ok (.ireturn, 1) := wt_op172 wb18m8_prog_13_method_33_code_c6 17 rfl rfl
theorem wp_md_letter_d202 : decode prog_13_method_33_code 202 = .ok (.aload_n 0, 1) := wt_op42 wb18m8_prog_13_method_33_code_c6 18 rfl rfl
theorem wp_md_letter_d203 : decode prog_13_method_33_code 203 = .ok (.getfield 32, 3) := wt_op180 wb18m8_prog_13_method_33_code_c6 19 rfl rfl rfl
theorem wp_md_letter_d206 : decode prog_13_method_33_code 206 = .ok (.iload_n 1, 1) := wt_op27 wb18m8_prog_13_method_33_code_c6 22 rfl rfl
theorem wp_md_letter_d207 : decode prog_13_method_33_code 207 = .ok (.iaload, 1) := wt_op46 wb18m8_prog_13_method_33_code_c6 23 rfl rfl
theorem wp_md_letter_d208 : decode prog_13_method_33_code 208 = .ok (.ireturn, 1) := wt_op172 wb18m8_prog_13_method_33_code_c6 24 rfl rfl
theorem wp_md_letter_d209 : decode prog_13_method_33_code 209 = .ok (.aload_n 0, 1) := wt_op42 wb18m8_prog_13_method_33_code_c6 25 rfl rfl
theorem wp_md_letter_d210 : decode prog_13_method_33_code 210 = .ok (.getfield 38, 3) := wt_op180 wb18m8_prog_13_method_33_code_c6 26 rfl rfl rfl
theorem wp_md_letter_d213 : decode prog_13_method_33_code 213 = .ok (.iload_n 1, 1) := wt_op27 wb18m8_prog_13_method_33_code_c7 0 rfl rfl
theorem wp_md_letter_d214 : decode prog_13_method_33_code 214 = .ok (.iaload, 1) := wt_op46 wb18m8_prog_13_method_33_code_c7 1 rfl rfl
theorem wp_md_letter_d215 : decode prog_13_method_33_code 215 = .ok (.ireturn, 1) := wt_op172 wb18m8_prog_13_method_33_code_c7 2 rfl rfl
theorem wp_md_letter_d216 : decode prog_13_method_33_code 216 = .ok (.aload_n 0, 1) := wt_op42 wb18m8_prog_13_method_33_code_c7 3 rfl rfl
theorem wp_md_letter_d217 : decode prog_13_method_33_code 217 = .ok (.getfield 26, 3) := wt_op180 wb18m8_prog_13_method_33_code_c7 4 rfl rfl rfl
theorem wp_md_letter_d220 : decode prog_13_method_33_code 220 = .ok (.iload_n 1, 1) := wt_op27 wb18m8_prog_13_method_33_code_c7 7 rfl rfl
theorem wp_md_letter_d221 : decode prog_13_method_33_code 221 = .ok (.iaload, 1) := wt_op46 wb18m8_prog_13_method_33_code_c7 8 rfl rfl
theorem wp_md_letter_d222 : decode prog_13_method_33_code 222 = .ok (.ireturn, 1) := wt_op172 wb18m8_prog_13_method_33_code_c7 9 rfl rfl
noncomputable def wp_md_letter_B133 (n : Nat) (x1 : Int32) (x2 : Int32) (x3 : Int32) (x4 : Int32) (x5 : Int32) (x7 : Int32) (K51 : Int32 × Int32 × Int32 × Int32 × Int32 × wt_St → Option (Int32 × wt_St)) (y0 : Int32) (y1 : Int32) (σ : wt_St) : Option (Int32 × wt_St) :=
  K51 (x3, x4, x5, (y0 + y1), (x7 + (1 : Int32)), σ)
set_option maxRecDepth 100000 in
set_option maxHeartbeats 4000000 in
theorem wp_md_letter_B133_ok  {x1 : Int32} {x2 : Int32} {x3 : Int32} {x4 : Int32} {x5 : Int32} {x7 : Int32} {X : wt_X} {n : Nat} {res : Int32 × wt_St} (hE : wt_Ok X prog_13_method_33_code 9 "WornTypeModel" 2 0) (hR : wt_Rt X (some .int) (some res.1) res.2) (hD : ∀ i, 108 ≤ i → i < 321 → wt_dom (wt_xw X) i)  {K51 : Int32 × Int32 × Int32 × Int32 × Int32 × wt_St → Option (Int32 × wt_St)} (hK51 : ∀ s : Int32 × Int32 × Int32 × Int32 × Int32 × wt_St, K51 s = some res → wt_V X 0 s.2.2.2.2.2 51 [some (.ref (wt_ad (wt_xw X) 108)), some (.int x1), some (.int x2), some (.int s.1), some (.int s.2.1), some (.int s.2.2.1), some (.int s.2.2.2.1), some (.int s.2.2.2.2.1), none] []) {σ : wt_St} {y0 : Int32} {y1 : Int32} (h : wp_md_letter_B133 n x1 x2 x3 x4 x5 x7 K51 y0 y1 σ = some res) : wt_V X 0 σ 133 [some (.ref (wt_ad (wt_xw X) 108)), some (.int x1), some (.int x2), some (.int x3), some (.int x4), some (.int x5), none, some (.int x7), none] [.int y1, .int y0] := by
  unfold wp_md_letter_B133 at h
  refine wt_iadd hE wp_md_letter_d133 ?_
  refine wt_istore hE [some (.ref (wt_ad (wt_xw X) 108)), some (.int x1), some (.int x2), some (.int x3), some (.int x4), some (.int x5), some (.int (y0 + y1)), some (.int x7), none] wp_md_letter_d134 (Nat.le_of_ble_eq_true rfl) rfl ?_
  refine wt_iinc hE (x7 + (1 : Int32)) [some (.ref (wt_ad (wt_xw X) 108)), some (.int x1), some (.int x2), some (.int x3), some (.int x4), some (.int x5), some (.int (y0 + y1)), some (.int (x7 + (1 : Int32))), none] wp_md_letter_d136 (by decide) rfl rfl rfl ?_
  refine wt_goto hE 51 wp_md_letter_d139 rfl ?_
  exact hK51 (x3, x4, x5, (y0 + y1), (x7 + (1 : Int32)), σ) h
noncomputable def wp_md_letter_B119 (n : Nat) (x1 : Int32) (x2 : Int32) (x3 : Int32) (x4 : Int32) (x6 : Int32) (x7 : Int32) (x8 : Int32) (K51 : Int32 × Int32 × Int32 × Int32 × Int32 × wt_St → Option (Int32 × wt_St)) (y0 : Int32) (σ : wt_St) : Option (Int32 × wt_St) :=
  if x8 = 0 then
    wp_md_letter_B133 n x1 x2 x3 x4 y0 x7 K51 x6 (1 : Int32) σ
  else
    wp_md_letter_B133 n x1 x2 x3 x4 y0 x7 K51 x6 (0 : Int32) σ
set_option maxRecDepth 100000 in
set_option maxHeartbeats 4000000 in
theorem wp_md_letter_B119_ok  {x1 : Int32} {x2 : Int32} {x3 : Int32} {x4 : Int32} {x6 : Int32} {x7 : Int32} {x8 : Int32} {X : wt_X} {n : Nat} {res : Int32 × wt_St} (hE : wt_Ok X prog_13_method_33_code 9 "WornTypeModel" 2 0) (hR : wt_Rt X (some .int) (some res.1) res.2) (hD : ∀ i, 108 ≤ i → i < 321 → wt_dom (wt_xw X) i)  {K51 : Int32 × Int32 × Int32 × Int32 × Int32 × wt_St → Option (Int32 × wt_St)} (hK51 : ∀ s : Int32 × Int32 × Int32 × Int32 × Int32 × wt_St, K51 s = some res → wt_V X 0 s.2.2.2.2.2 51 [some (.ref (wt_ad (wt_xw X) 108)), some (.int x1), some (.int x2), some (.int s.1), some (.int s.2.1), some (.int s.2.2.1), some (.int s.2.2.2.1), some (.int s.2.2.2.2.1), none] []) {σ : wt_St} {y0 : Int32} (h : wp_md_letter_B119 n x1 x2 x3 x4 x6 x7 x8 K51 y0 σ = some res) : wt_V X 0 σ 119 [some (.ref (wt_ad (wt_xw X) 108)), some (.int x1), some (.int x2), some (.int x3), some (.int x4), none, some (.int x6), some (.int x7), some (.int x8)] [.int y0] := by
  unfold wp_md_letter_B119 at h
  refine wt_istore hE [some (.ref (wt_ad (wt_xw X) 108)), some (.int x1), some (.int x2), some (.int x3), some (.int x4), some (.int y0), some (.int x6), some (.int x7), some (.int x8)] wp_md_letter_d119 (Nat.le_of_ble_eq_true rfl) rfl ?_
  refine wt_iload hE wp_md_letter_d121 rfl ?_
  refine wt_iload hE wp_md_letter_d123 rfl ?_
  refine wt_if_ne hE 132 wp_md_letter_d125 rfl (fun c24 => ?_) (fun c24 => ?_)
  · have h := wt_in c24 h
    refine wt_iconst hE (0 : Int32) wp_md_letter_d132 wt_ci_0 ?_
    refine wt_wk [true, true, true, true, true, true, false, true, false] rfl ?_
    exact wp_md_letter_B133_ok hE hR hD hK51 h
  · have h := wt_ip c24 h
    refine wt_iconst hE (1 : Int32) wp_md_letter_d128 wt_ci_1 ?_
    refine wt_goto hE 133 wp_md_letter_d129 rfl ?_
    refine wt_wk [true, true, true, true, true, true, false, true, false] rfl ?_
    exact wp_md_letter_B133_ok hE hR hD hK51 h
noncomputable def wp_md_letter_B96 (n : Nat) (x1 : Int32) (x2 : Int32) (x4 : Int32) (x5 : Int32) (x6 : Int32) (x7 : Int32) (x8 : Int32) (K51 : Int32 × Int32 × Int32 × Int32 × Int32 × wt_St → Option (Int32 × wt_St)) (y0 : Int32) (y1 : Int32) (σ : wt_St) : Option (Int32 × wt_St) :=
  if x8 ≤ x5 then
    wp_md_letter_B119 n x1 x2 (y0 + y1) (x4 + x8) x6 x7 x8 K51 x5 σ
  else
    wp_md_letter_B119 n x1 x2 (y0 + y1) (x4 + x8) x6 x7 x8 K51 x8 σ
set_option maxRecDepth 100000 in
set_option maxHeartbeats 4000000 in
theorem wp_md_letter_B96_ok  {x1 : Int32} {x2 : Int32} {x4 : Int32} {x5 : Int32} {x6 : Int32} {x7 : Int32} {x8 : Int32} {X : wt_X} {n : Nat} {res : Int32 × wt_St} (hE : wt_Ok X prog_13_method_33_code 9 "WornTypeModel" 2 0) (hR : wt_Rt X (some .int) (some res.1) res.2) (hD : ∀ i, 108 ≤ i → i < 321 → wt_dom (wt_xw X) i)  {K51 : Int32 × Int32 × Int32 × Int32 × Int32 × wt_St → Option (Int32 × wt_St)} (hK51 : ∀ s : Int32 × Int32 × Int32 × Int32 × Int32 × wt_St, K51 s = some res → wt_V X 0 s.2.2.2.2.2 51 [some (.ref (wt_ad (wt_xw X) 108)), some (.int x1), some (.int x2), some (.int s.1), some (.int s.2.1), some (.int s.2.2.1), some (.int s.2.2.2.1), some (.int s.2.2.2.2.1), none] []) {σ : wt_St} {y0 : Int32} {y1 : Int32} (h : wp_md_letter_B96 n x1 x2 x4 x5 x6 x7 x8 K51 y0 y1 σ = some res) : wt_V X 0 σ 96 [some (.ref (wt_ad (wt_xw X) 108)), some (.int x1), some (.int x2), none, some (.int x4), some (.int x5), some (.int x6), some (.int x7), some (.int x8)] [.int y1, .int y0] := by
  unfold wp_md_letter_B96 at h
  refine wt_iadd hE wp_md_letter_d96 ?_
  refine wt_istore_n hE [some (.ref (wt_ad (wt_xw X) 108)), some (.int x1), some (.int x2), some (.int (y0 + y1)), some (.int x4), some (.int x5), some (.int x6), some (.int x7), some (.int x8)] wp_md_letter_d97 (by decide) rfl ?_
  refine wt_iload hE wp_md_letter_d98 rfl ?_
  refine wt_iload hE wp_md_letter_d100 rfl ?_
  refine wt_iadd hE wp_md_letter_d102 ?_
  refine wt_istore hE [some (.ref (wt_ad (wt_xw X) 108)), some (.int x1), some (.int x2), some (.int (y0 + y1)), some (.int (x4 + x8)), some (.int x5), some (.int x6), some (.int x7), some (.int x8)] wp_md_letter_d103 (Nat.le_of_ble_eq_true rfl) rfl ?_
  refine wt_iload hE wp_md_letter_d105 rfl ?_
  refine wt_iload hE wp_md_letter_d107 rfl ?_
  refine wt_icmp_le hE 117 wp_md_letter_d109 rfl (fun c23 => ?_) (fun c23 => ?_)
  · have h := wt_ip c23 h
    refine wt_iload hE wp_md_letter_d117 rfl ?_
    refine wt_wk [true, true, true, true, true, false, true, true, true] rfl ?_
    exact wp_md_letter_B119_ok hE hR hD hK51 h
  · have h := wt_in c23 h
    refine wt_iload hE wp_md_letter_d112 rfl ?_
    refine wt_goto hE 119 wp_md_letter_d114 rfl ?_
    refine wt_wk [true, true, true, true, true, false, true, true, true] rfl ?_
    exact wp_md_letter_B119_ok hE hR hD hK51 h
noncomputable def wp_md_letter_B51 (n : Nat) (x1 : Int32) (x2 : Int32) (K51 : Int32 × Int32 × Int32 × Int32 × Int32 × wt_St → Option (Int32 × wt_St)) (s : Int32 × Int32 × Int32 × Int32 × Int32 × wt_St) : Option (Int32 × wt_St) :=
  if x1 < 0 ∨ 26 ≤ Int32.toNatClampNeg x1 then none else
  if (wt_ga s.2.2.2.2.2 111 (Int32.toNatClampNeg x1)) ≤ s.2.2.2.2.1 then
    if x2 = (0 : Int32) then
      if x1 < 0 ∨ 26 ≤ Int32.toNatClampNeg x1 then none else
      some ((wt_ga s.2.2.2.2.2 111 (Int32.toNatClampNeg x1)), s.2.2.2.2.2)
    else if x2 = (1 : Int32) then
      some (s.1, s.2.2.2.2.2)
    else if x2 = (2 : Int32) then
      some (s.2.1, s.2.2.2.2.2)
    else if x2 = (3 : Int32) then
      some (s.2.2.1, s.2.2.2.2.2)
    else if x2 = (4 : Int32) then
      some (s.2.2.2.1, s.2.2.2.2.2)
    else if x2 = (5 : Int32) then
      if x1 < 0 ∨ 26 ≤ Int32.toNatClampNeg x1 then none else
      some ((wt_ga s.2.2.2.2.2 115 (Int32.toNatClampNeg x1)), s.2.2.2.2.2)
    else if x2 = (6 : Int32) then
      if x1 < 0 ∨ 26 ≤ Int32.toNatClampNeg x1 then none else
      some ((wt_ga s.2.2.2.2.2 117 (Int32.toNatClampNeg x1)), s.2.2.2.2.2)
    else if x1 < 0 ∨ 26 ≤ Int32.toNatClampNeg x1 then none else
      some ((wt_ga s.2.2.2.2.2 113 (Int32.toNatClampNeg x1)), s.2.2.2.2.2)
  else
    (wp_md_cell n x1 s.2.2.2.2.1 s.2.2.2.2.2).bind fun q18 =>
    if q18.1 < 0 ∨ 338 ≤ Int32.toNatClampNeg q18.1 then none else
    (wp_md_cell n x1 s.2.2.2.2.1 q18.2).bind fun q20 =>
    if q20.1 < 0 ∨ 338 ≤ Int32.toNatClampNeg q20.1 then none else
    if (wt_ga q20.2 124 (Int32.toNatClampNeg q20.1)) = (-1 : Int32) then
      wp_md_letter_B96 n x1 x2 s.2.1 s.2.2.1 s.2.2.2.1 s.2.2.2.2.1 (wt_ga q18.2 121 (Int32.toNatClampNeg q18.1)) K51 s.1 (1 : Int32) q20.2
    else
      wp_md_letter_B96 n x1 x2 s.2.1 s.2.2.1 s.2.2.2.1 s.2.2.2.2.1 (wt_ga q18.2 121 (Int32.toNatClampNeg q18.1)) K51 s.1 (0 : Int32) q20.2
set_option maxRecDepth 100000 in
set_option maxHeartbeats 4000000 in
theorem wp_md_letter_B51_ok  {x1 : Int32} {x2 : Int32} {X : wt_X} {n : Nat} {res : Int32 × wt_St} (hE : wt_Ok X prog_13_method_33_code 9 "WornTypeModel" 2 0) (hR : wt_Rt X (some .int) (some res.1) res.2) (hD : ∀ i, 108 ≤ i → i < 321 → wt_dom (wt_xw X) i)  {K51 : Int32 × Int32 × Int32 × Int32 × Int32 × wt_St → Option (Int32 × wt_St)} (hK51 : ∀ s : Int32 × Int32 × Int32 × Int32 × Int32 × wt_St, K51 s = some res → wt_V X 0 s.2.2.2.2.2 51 [some (.ref (wt_ad (wt_xw X) 108)), some (.int x1), some (.int x2), some (.int s.1), some (.int s.2.1), some (.int s.2.2.1), some (.int s.2.2.2.1), some (.int s.2.2.2.2.1), none] []) {s : Int32 × Int32 × Int32 × Int32 × Int32 × wt_St} (h : wp_md_letter_B51 n x1 x2 K51 s = some res) : wt_V X 0 s.2.2.2.2.2 51 [some (.ref (wt_ad (wt_xw X) 108)), some (.int x1), some (.int x2), some (.int s.1), some (.int s.2.1), some (.int s.2.2.1), some (.int s.2.2.2.1), some (.int s.2.2.2.2.1), none] [] := by
  unfold wp_md_letter_B51 at h
  refine wt_iload hE wp_md_letter_d51 rfl ?_
  refine wt_aload_n hE wp_md_letter_d53 rfl ?_
  refine wt_getr hE (r := 111) wt_lf_md_20 (hD 108 (by decide) (by decide)) wt_L108 rfl wp_md_letter_d54 ?_
  refine wt_iload_n hE wp_md_letter_d57 rfl ?_
  obtain ⟨g5, h⟩ := wt_gd h
  refine wt_iald hE (hD 111 (by decide) (by decide)) wt_L111 g5 wp_md_letter_d58 ?_
  refine wt_icmp_ge hE 142 wp_md_letter_d59 rfl (fun c6 => ?_) (fun c6 => ?_)
  · have h := wt_ip c6 h
    refine wt_iload_n hE wp_md_letter_d142 rfl ?_
    by_cases c7 : x2 = (0 : Int32)
    · have h := wt_ip c7 h
      refine wt_tsIn hE (off := 41) 184 c7 wp_md_letter_d143 (by decide) (by decide) (by decide) rfl ?_
      refine wt_aload_n hE wp_md_letter_d184 rfl ?_
      refine wt_getr hE (r := 111) wt_lf_md_20 (hD 108 (by decide) (by decide)) wt_L108 rfl wp_md_letter_d185 ?_
      refine wt_iload_n hE wp_md_letter_d188 rfl ?_
      obtain ⟨g8, h⟩ := wt_gd h
      refine wt_iald hE (hD 111 (by decide) (by decide)) wt_L111 g8 wp_md_letter_d189 ?_
      cases h
      exact wt_iret hE hR wp_md_letter_d190
    have h := wt_in c7 h
    by_cases c9 : x2 = (1 : Int32)
    · have h := wt_ip c9 h
      refine wt_tsIn hE (off := 48) 191 c9 wp_md_letter_d143 (by decide) (by decide) (by decide) rfl ?_
      refine wt_iload_n hE wp_md_letter_d191 rfl ?_
      cases h
      exact wt_iret hE hR wp_md_letter_d192
    have h := wt_in c9 h
    by_cases c10 : x2 = (2 : Int32)
    · have h := wt_ip c10 h
      refine wt_tsIn hE (off := 50) 193 c10 wp_md_letter_d143 (by decide) (by decide) (by decide) rfl ?_
      refine wt_iload hE wp_md_letter_d193 rfl ?_
      cases h
      exact wt_iret hE hR wp_md_letter_d195
    have h := wt_in c10 h
    by_cases c11 : x2 = (3 : Int32)
    · have h := wt_ip c11 h
      refine wt_tsIn hE (off := 53) 196 c11 wp_md_letter_d143 (by decide) (by decide) (by decide) rfl ?_
      refine wt_iload hE wp_md_letter_d196 rfl ?_
      cases h
      exact wt_iret hE hR wp_md_letter_d198
    have h := wt_in c11 h
    by_cases c12 : x2 = (4 : Int32)
    · have h := wt_ip c12 h
      refine wt_tsIn hE (off := 56) 199 c12 wp_md_letter_d143 (by decide) (by decide) (by decide) rfl ?_
      refine wt_iload hE wp_md_letter_d199 rfl ?_
      cases h
      exact wt_iret hE hR wp_md_letter_d201
    have h := wt_in c12 h
    by_cases c13 : x2 = (5 : Int32)
    · have h := wt_ip c13 h
      refine wt_tsIn hE (off := 59) 202 c13 wp_md_letter_d143 (by decide) (by decide) (by decide) rfl ?_
      refine wt_aload_n hE wp_md_letter_d202 rfl ?_
      refine wt_getr hE (r := 115) wt_lf_md_32 (hD 108 (by decide) (by decide)) wt_L108 rfl wp_md_letter_d203 ?_
      refine wt_iload_n hE wp_md_letter_d206 rfl ?_
      obtain ⟨g14, h⟩ := wt_gd h
      refine wt_iald hE (hD 115 (by decide) (by decide)) wt_L115 g14 wp_md_letter_d207 ?_
      cases h
      exact wt_iret hE hR wp_md_letter_d208
    have h := wt_in c13 h
    by_cases c15 : x2 = (6 : Int32)
    · have h := wt_ip c15 h
      refine wt_tsIn hE (off := 66) 209 c15 wp_md_letter_d143 (by decide) (by decide) (by decide) rfl ?_
      refine wt_aload_n hE wp_md_letter_d209 rfl ?_
      refine wt_getr hE (r := 117) wt_lf_md_38 (hD 108 (by decide) (by decide)) wt_L108 rfl wp_md_letter_d210 ?_
      refine wt_iload_n hE wp_md_letter_d213 rfl ?_
      obtain ⟨g16, h⟩ := wt_gd h
      refine wt_iald hE (hD 117 (by decide) (by decide)) wt_L117 g16 wp_md_letter_d214 ?_
      cases h
      exact wt_iret hE hR wp_md_letter_d215
    have h := wt_in c15 h
    refine wt_tsOut hE 7 216 rfl (by decide) (fun j hj => ?_) wp_md_letter_d143 rfl ?_
    · rcases (show j = 0 ∨ j = 1 ∨ j = 2 ∨ j = 3 ∨ j = 4 ∨ j = 5 ∨ j = 6 by omega) with rfl | rfl | rfl | rfl | rfl | rfl | rfl
      · exact c7
      · exact c9
      · exact c10
      · exact c11
      · exact c12
      · exact c13
      · exact c15
    refine wt_aload_n hE wp_md_letter_d216 rfl ?_
    refine wt_getr hE (r := 113) wt_lf_md_26 (hD 108 (by decide) (by decide)) wt_L108 rfl wp_md_letter_d217 ?_
    refine wt_iload_n hE wp_md_letter_d220 rfl ?_
    obtain ⟨g17, h⟩ := wt_gd h
    refine wt_iald hE (hD 113 (by decide) (by decide)) wt_L113 g17 wp_md_letter_d221 ?_
    cases h
    exact wt_iret hE hR wp_md_letter_d222
  · have h := wt_in c6 h
    refine wt_aload_n hE wp_md_letter_d62 rfl ?_
    refine wt_getr hE (r := 121) wt_lf_md_50 (hD 108 (by decide) (by decide)) wt_L108 rfl wp_md_letter_d63 ?_
    refine wt_iload_n hE wp_md_letter_d66 rfl ?_
    refine wt_iload hE wp_md_letter_d67 rfl ?_
    obtain ⟨q18, hq18, h⟩ := wt_bi h
    refine wt_callSi hE [.int x1, .int s.2.2.2.2.1] wt_lm_md_227 wt_ya_md_cell (wp_md_cell_ok hq18) (by omega) rfl rfl (Nat.le_of_ble_eq_true rfl) (Nat.zero_le _) wp_md_letter_d69 (fun hbq18 => ?_)
    obtain ⟨g19, h⟩ := wt_gd h
    refine wt_iald hE (hD 121 (by decide) (by decide)) wt_L121 g19 wp_md_letter_d72 ?_
    refine wt_istore hE [some (.ref (wt_ad (wt_xw X) 108)), some (.int x1), some (.int x2), some (.int s.1), some (.int s.2.1), some (.int s.2.2.1), some (.int s.2.2.2.1), some (.int s.2.2.2.2.1), some (.int (wt_ga q18.2 121 (Int32.toNatClampNeg q18.1)))] wp_md_letter_d73 (Nat.le_of_ble_eq_true rfl) rfl ?_
    refine wt_iload_n hE wp_md_letter_d75 rfl ?_
    refine wt_aload_n hE wp_md_letter_d76 rfl ?_
    refine wt_getr hE (r := 124) wt_lf_md_59 (hD 108 (by decide) (by decide)) wt_L108 rfl wp_md_letter_d77 ?_
    refine wt_iload_n hE wp_md_letter_d80 rfl ?_
    refine wt_iload hE wp_md_letter_d81 rfl ?_
    obtain ⟨q20, hq20, h⟩ := wt_bi h
    refine wt_callSi hE [.int x1, .int s.2.2.2.2.1] wt_lm_md_227 wt_ya_md_cell (wp_md_cell_ok hq20) (by omega) rfl rfl (Nat.le_of_ble_eq_true rfl) (Nat.zero_le _) wp_md_letter_d83 (fun hbq20 => ?_)
    obtain ⟨g21, h⟩ := wt_gd h
    refine wt_iald hE (hD 124 (by decide) (by decide)) wt_L124 g21 wp_md_letter_d86 ?_
    refine wt_iconst hE (-1 : Int32) wp_md_letter_d87 wt_ci_m1 ?_
    refine wt_icmp_ne hE 95 wp_md_letter_d88 rfl (fun c22 => ?_) (fun c22 => ?_)
    · have h := wt_in c22 h
      refine wt_iconst hE (0 : Int32) wp_md_letter_d95 wt_ci_0 ?_
      refine wt_wk [true, true, true, false, true, true, true, true, true] rfl ?_
      exact wp_md_letter_B96_ok hE hR hD hK51 h
    · have h := wt_ip c22 h
      refine wt_iconst hE (1 : Int32) wp_md_letter_d91 wt_ci_1 ?_
      refine wt_goto hE 96 wp_md_letter_d92 rfl ?_
      refine wt_wk [true, true, true, false, true, true, true, true, true] rfl ?_
      exact wp_md_letter_B96_ok hE hR hD hK51 h
noncomputable def wp_md_letter_B28 (n : Nat) (x1 : Int32) (x2 : Int32) (y1 : Int32) (σ : wt_St) : Option (Int32 × wt_St) :=
  (wp_md_bad n y1 (1 : Int32) σ).bind fun q3 =>
  if q3.1 = 0 then
    wt_it (wp_md_letter_B51 n x1 x2) n ((0 : Int32), (0 : Int32), (0 : Int32), (0 : Int32), (0 : Int32), q3.2)
  else
    some ((0 : Int32), q3.2)
set_option maxRecDepth 100000 in
set_option maxHeartbeats 4000000 in
theorem wp_md_letter_B28_ok  {x1 : Int32} {x2 : Int32} {X : wt_X} {n : Nat} {res : Int32 × wt_St} (hE : wt_Ok X prog_13_method_33_code 9 "WornTypeModel" 2 0) (hR : wt_Rt X (some .int) (some res.1) res.2) (hD : ∀ i, 108 ≤ i → i < 321 → wt_dom (wt_xw X) i)  {σ : wt_St} {y1 : Int32} (h : wp_md_letter_B28 n x1 x2 y1 σ = some res) : wt_V X 0 σ 28 [some (.ref (wt_ad (wt_xw X) 108)), some (.int x1), some (.int x2), none, none, none, none, none, none] [.int y1, .ref (wt_ad (wt_xw X) 108)] := by
  unfold wp_md_letter_B28 at h
  refine wt_iconst hE (1 : Int32) wp_md_letter_d28 wt_ci_1 ?_
  obtain ⟨q3, hq3, h⟩ := wt_bi h
  refine wt_callVi hE [.int y1, .int (1 : Int32)] wt_lm_md_230 wt_ya_md_bad (wp_md_bad_ok hD hq3) (by omega) (hD 108 (by decide) (by decide)) wt_L108 rfl rfl rfl (Nat.le_of_ble_eq_true rfl) (Nat.zero_le _) wp_md_letter_d29 (fun hbq3 => ?_)
  refine wt_if_eq hE 37 wp_md_letter_d32 rfl (fun c4 => ?_) (fun c4 => ?_)
  · have h := wt_ip c4 h
    refine wt_iconst hE (0 : Int32) wp_md_letter_d37 wt_ci_0 ?_
    refine wt_istore_n hE [some (.ref (wt_ad (wt_xw X) 108)), some (.int x1), some (.int x2), some (.int (0 : Int32)), none, none, none, none, none] wp_md_letter_d38 (by decide) rfl ?_
    refine wt_iconst hE (0 : Int32) wp_md_letter_d39 wt_ci_0 ?_
    refine wt_istore hE [some (.ref (wt_ad (wt_xw X) 108)), some (.int x1), some (.int x2), some (.int (0 : Int32)), some (.int (0 : Int32)), none, none, none, none] wp_md_letter_d40 (Nat.le_of_ble_eq_true rfl) rfl ?_
    refine wt_iconst hE (0 : Int32) wp_md_letter_d42 wt_ci_0 ?_
    refine wt_istore hE [some (.ref (wt_ad (wt_xw X) 108)), some (.int x1), some (.int x2), some (.int (0 : Int32)), some (.int (0 : Int32)), some (.int (0 : Int32)), none, none, none] wp_md_letter_d43 (Nat.le_of_ble_eq_true rfl) rfl ?_
    refine wt_iconst hE (0 : Int32) wp_md_letter_d45 wt_ci_0 ?_
    refine wt_istore hE [some (.ref (wt_ad (wt_xw X) 108)), some (.int x1), some (.int x2), some (.int (0 : Int32)), some (.int (0 : Int32)), some (.int (0 : Int32)), some (.int (0 : Int32)), none, none] wp_md_letter_d46 (Nat.le_of_ble_eq_true rfl) rfl ?_
    refine wt_iconst hE (0 : Int32) wp_md_letter_d48 wt_ci_0 ?_
    refine wt_istore hE [some (.ref (wt_ad (wt_xw X) 108)), some (.int x1), some (.int x2), some (.int (0 : Int32)), some (.int (0 : Int32)), some (.int (0 : Int32)), some (.int (0 : Int32)), some (.int (0 : Int32)), none] wp_md_letter_d49 (Nat.le_of_ble_eq_true rfl) rfl ?_
    exact wt_it_ind (fun z => wt_V X 0 z.2.2.2.2.2 51 [some (.ref (wt_ad (wt_xw X) 108)), some (.int x1), some (.int x2), some (.int z.1), some (.int z.2.1), some (.int z.2.2.1), some (.int z.2.2.2.1), some (.int z.2.2.2.2.1), none] []) (fun K hK z h => wp_md_letter_B51_ok hE hR hD hK h) n ((0 : Int32), (0 : Int32), (0 : Int32), (0 : Int32), (0 : Int32), q3.2) h
  · have h := wt_in c4 h
    refine wt_iconst hE (0 : Int32) wp_md_letter_d35 wt_ci_0 ?_
    cases h
    exact wt_iret hE hR wp_md_letter_d36
noncomputable def wp_md_letter_B23 (n : Nat) (x1 : Int32) (x2 : Int32) (σ : wt_St) : Option (Int32 × wt_St) :=
  wp_md_letter_B28 n x1 x2 (1 : Int32) σ
set_option maxRecDepth 100000 in
set_option maxHeartbeats 4000000 in
theorem wp_md_letter_B23_ok  {x1 : Int32} {x2 : Int32} {X : wt_X} {n : Nat} {res : Int32 × wt_St} (hE : wt_Ok X prog_13_method_33_code 9 "WornTypeModel" 2 0) (hR : wt_Rt X (some .int) (some res.1) res.2) (hD : ∀ i, 108 ≤ i → i < 321 → wt_dom (wt_xw X) i)  {σ : wt_St} (h : wp_md_letter_B23 n x1 x2 σ = some res) : wt_V X 0 σ 23 [some (.ref (wt_ad (wt_xw X) 108)), some (.int x1), some (.int x2), none, none, none, none, none, none] [.ref (wt_ad (wt_xw X) 108)] := by
  unfold wp_md_letter_B23 at h
  refine wt_iconst hE (1 : Int32) wp_md_letter_d23 wt_ci_1 ?_
  refine wt_goto hE 28 wp_md_letter_d24 rfl ?_
  exact wp_md_letter_B28_ok hE hR hD h
noncomputable def wp_md_letter (n : Nat) (x1 : Int32) (x2 : Int32) (σ : wt_St) : Option (Int32 × wt_St) :=
  (wp_md_isLetter n x1 (wt_sf σ 108 0 (0 : Int32))).bind fun q1 =>
  if q1.1 = 0 then
    wp_md_letter_B23 n x1 x2 q1.2
  else
    (wp_md_in n x2 (0 : Int32) (7 : Int32) q1.2).bind fun q25 =>
    if q25.1 = 0 then
      wp_md_letter_B23 n x1 x2 q25.2
    else
      wp_md_letter_B28 n x1 x2 (0 : Int32) q25.2
set_option maxRecDepth 100000 in
set_option maxHeartbeats 4000000 in
theorem wp_md_letter_ok {l : Launch} {w : wt_E} {n : Nat} {x1 : Int32} {x2 : Int32} (hD : ∀ i, 108 ≤ i → i < 321 → wt_dom w i) {σ : wt_St} {q : Int32 × wt_St} (h : wp_md_letter n x1 x2 σ = some q) : wt_Ctr l w wt_y_md_letter prog_13_method_33_code 9 (some .int) 2 [.ref (wt_ad w 108), .int x1, .int x2] σ (some q.1) q.2 := by
  refine wt_ctr wt_pl_md_letter rfl (Nat.le_of_ble_eq_true rfl) [some (.ref (wt_ad w 108)), some (.int x1), some (.int x2), none, none, none, none, none, none] rfl ?_
  intro X hXl hXw hE hR
  subst hXl
  subst hXw
  have hE : wt_Ok X prog_13_method_33_code 9 "WornTypeModel" 2 0 := hE
  unfold wp_md_letter at h
  refine wt_aload_n hE wp_md_letter_d0 rfl ?_
  refine wt_iconst hE (0 : Int32) wp_md_letter_d1 wt_ci_0 ?_
  refine wt_puti hE wt_lf_md_151 (hD 108 (by decide) (by decide)) wt_L108 rfl (fun q hq => by cases hq; rfl) wp_md_letter_d2 ?_
  refine wt_aload_n hE wp_md_letter_d5 rfl ?_
  refine wt_iload_n hE wp_md_letter_d6 rfl ?_
  obtain ⟨q1, hq1, h⟩ := wt_bi h
  refine wt_callSi hE [.int x1] wt_lm_md_280 wt_ya_md_isLetter (wp_md_isLetter_ok hq1) (by omega) rfl rfl (Nat.le_of_ble_eq_true rfl) (Nat.zero_le _) wp_md_letter_d7 (fun hbq1 => ?_)
  refine wt_if_eq hE 23 wp_md_letter_d10 rfl (fun c2 => ?_) (fun c2 => ?_)
  · have h := wt_ip c2 h
    exact wp_md_letter_B23_ok hE hR hD h
  · have h := wt_in c2 h
    refine wt_iload_n hE wp_md_letter_d13 rfl ?_
    refine wt_iconst hE (0 : Int32) wp_md_letter_d14 wt_ci_0 ?_
    refine wt_bipush hE (7 : Int32) wp_md_letter_d15 wt_cb_7 ?_
    obtain ⟨q25, hq25, h⟩ := wt_bi h
    refine wt_callSi hE [.int x2, .int (0 : Int32), .int (7 : Int32)] wt_lm_md_185 wt_ya_md_in (wp_md_in_ok hq25) (by omega) rfl rfl (Nat.le_of_ble_eq_true rfl) (Nat.zero_le _) wp_md_letter_d17 (fun hbq25 => ?_)
    refine wt_if_ne hE 27 wp_md_letter_d20 rfl (fun c26 => ?_) (fun c26 => ?_)
    · have h := wt_in c26 h
      refine wt_iconst hE (0 : Int32) wp_md_letter_d27 wt_ci_0 ?_
      exact wp_md_letter_B28_ok hE hR hD h
    · have h := wt_ip c26 h
      exact wp_md_letter_B23_ok hE hR hD h
def wb18m8_prog_13_method_85_code_r2 : List (List Nat) := [3, 96, 61, 132, 3, 1, 167, 255, 229, 42, 182, 1, 110, 28, 172] :: []
def wb18m8_prog_13_method_85_code_r1 : List (List Nat) := [27, 182, 1, 116, 87, 3, 61, 3, 62, 29, 42, 180, 1, 3, 162, 0, 25, 28, 42, 29, 182, 1, 48, 154, 0, 7, 4, 167, 0, 4] :: wb18m8_prog_13_method_85_code_r2
def wb18m8_prog_13_method_85_code_r0 : List (List Nat) := [42, 3, 181, 0, 151, 42, 27, 184, 1, 122, 154, 0, 7, 4, 167, 0, 4, 3, 4, 182, 0, 230, 153, 0, 5, 3, 172, 42] :: wb18m8_prog_13_method_85_code_r1
set_option maxRecDepth 100000 in
theorem wb18m8_prog_13_method_85_code_c0 : wt_cs prog_13_method_85_code 0 wb18m8_prog_13_method_85_code_r0 := wt_cs_of (by decide +kernel)
theorem wb18m8_prog_13_method_85_code_c1 : wt_cs prog_13_method_85_code 28 wb18m8_prog_13_method_85_code_r1 := wt_cs_tl (m := 28) wb18m8_prog_13_method_85_code_c0 rfl rfl
theorem wb18m8_prog_13_method_85_code_c2 : wt_cs prog_13_method_85_code 58 wb18m8_prog_13_method_85_code_r2 := wt_cs_tl (m := 30) wb18m8_prog_13_method_85_code_c1 rfl rfl
theorem wp_md_lost_d0 : decode prog_13_method_85_code 0 = .ok (.aload_n 0, 1) := wt_op42 wb18m8_prog_13_method_85_code_c0 0 rfl rfl
theorem wp_md_lost_d1 : decode prog_13_method_85_code 1 = .ok (.iconst 0, 1) := wt_op3 wb18m8_prog_13_method_85_code_c0 1 rfl rfl
theorem wp_md_lost_d2 : decode prog_13_method_85_code 2 = .ok (.putfield 151, 3) := wt_op181 wb18m8_prog_13_method_85_code_c0 2 rfl rfl rfl
theorem wp_md_lost_d5 : decode prog_13_method_85_code 5 = .ok (.aload_n 0, 1) := wt_op42 wb18m8_prog_13_method_85_code_c0 5 rfl rfl
theorem wp_md_lost_d6 : decode prog_13_method_85_code 6 = .ok (.iload_n 1, 1) := wt_op27 wb18m8_prog_13_method_85_code_c0 6 rfl rfl
theorem wp_md_lost_d7 : decode prog_13_method_85_code 7 = .ok (.invokestatic 378, 3) := wt_op184 wb18m8_prog_13_method_85_code_c0 7 rfl rfl rfl
theorem wp_md_lost_d10 : decode prog_13_method_85_code 10 = .ok (.ifCond .ne 7, 3) := wt_op154 wb18m8_prog_13_method_85_code_c0 10 rfl rfl rfl
theorem wp_md_lost_d13 : decode prog_13_method_85_code 13 = .ok (.iconst 1, 1) := wt_op4 wb18m8_prog_13_method_85_code_c0 13 rfl rfl
theorem wp_md_lost_d14 : decode prog_13_method_85_code 14 = .ok (.goto 4, 3) := wt_op167 wb18m8_prog_13_method_85_code_c0 14 rfl rfl rfl
theorem wp_md_lost_d17 : decode prog_13_method_85_code 17 = .ok (.iconst 0, 1) := wt_op3 wb18m8_prog_13_method_85_code_c0 17 rfl rfl
theorem wp_md_lost_d18 : decode prog_13_method_85_code 18 = .ok (.iconst 1, 1) := wt_op4 wb18m8_prog_13_method_85_code_c0 18 rfl rfl
theorem wp_md_lost_d19 : decode prog_13_method_85_code 19 = .ok (.invokevirtual 230, 3) := wt_op182 wb18m8_prog_13_method_85_code_c0 19 rfl rfl rfl
theorem wp_md_lost_d22 : decode prog_13_method_85_code 22 = .ok (.ifCond .eq 5, 3) := wt_op153 wb18m8_prog_13_method_85_code_c0 22 rfl rfl rfl
theorem wp_md_lost_d25 : decode prog_13_method_85_code 25 = .ok (.iconst 0, 1) := wt_op3 wb18m8_prog_13_method_85_code_c0 25 rfl rfl
theorem wp_md_lost_d26 : decode prog_13_method_85_code 26 = .ok (.ireturn, 1) := wt_op172 wb18m8_prog_13_method_85_code_c0 26 rfl rfl
theorem wp_md_lost_d27 : decode prog_13_method_85_code 27 = .ok (.aload_n 0, 1) := wt_op42 wb18m8_prog_13_method_85_code_c0 27 rfl rfl
theorem wp_md_lost_d28 : decode prog_13_method_85_code 28 = .ok (.iload_n 1, 1) := wt_op27 wb18m8_prog_13_method_85_code_c1 0 rfl rfl
theorem wp_md_lost_d29 : decode prog_13_method_85_code 29 = .ok (.invokevirtual 372, 3) := wt_op182 wb18m8_prog_13_method_85_code_c1 1 rfl rfl rfl
theorem wp_md_lost_d32 : decode prog_13_method_85_code 32 = .ok (.pop, 1) := wt_op87 wb18m8_prog_13_method_85_code_c1 4 rfl rfl
theorem wp_md_lost_d33 : decode prog_13_method_85_code 33 = .ok (.iconst 0, 1) := wt_op3 wb18m8_prog_13_method_85_code_c1 5 rfl rfl
theorem wp_md_lost_d34 : decode prog_13_method_85_code 34 = .ok (.istore_n 2, 1) := wt_op61 wb18m8_prog_13_method_85_code_c1 6 rfl rfl
theorem wp_md_lost_d35 : decode prog_13_method_85_code 35 = .ok (.iconst 0, 1) := wt_op3 wb18m8_prog_13_method_85_code_c1 7 rfl rfl
theorem wp_md_lost_d36 : decode prog_13_method_85_code 36 = .ok (.istore_n 3, 1) := wt_op62 wb18m8_prog_13_method_85_code_c1 8 rfl rfl
theorem wp_md_lost_d37 : decode prog_13_method_85_code 37 = .ok (.iload_n 3, 1) := wt_op29 wb18m8_prog_13_method_85_code_c1 9 rfl rfl
theorem wp_md_lost_d38 : decode prog_13_method_85_code 38 = .ok (.aload_n 0, 1) := wt_op42 wb18m8_prog_13_method_85_code_c1 10 rfl rfl
theorem wp_md_lost_d39 : decode prog_13_method_85_code 39 = .ok (.getfield 259, 3) := wt_op180 wb18m8_prog_13_method_85_code_c1 11 rfl rfl rfl
theorem wp_md_lost_d42 : decode prog_13_method_85_code 42 = .ok (.if_icmp .ge 25, 3) := wt_op162 wb18m8_prog_13_method_85_code_c1 14 rfl rfl rfl
theorem wp_md_lost_d45 : decode prog_13_method_85_code 45 = .ok (.iload_n 2, 1) := wt_op28 wb18m8_prog_13_method_85_code_c1 17 rfl rfl
theorem wp_md_lost_d46 : decode prog_13_method_85_code 46 = .ok (.aload_n 0, 1) := wt_op42 wb18m8_prog_13_method_85_code_c1 18 rfl rfl
theorem wp_md_lost_d47 : decode prog_13_method_85_code 47 = .ok (.iload_n 3, 1) := wt_op29 wb18m8_prog_13_method_85_code_c1 19 rfl rfl
theorem wp_md_lost_d48 : decode prog_13_method_85_code 48 = .ok (.invokevirtual 304, 3) := wt_op182 wb18m8_prog_13_method_85_code_c1 20 rfl rfl rfl
theorem wp_md_lost_d51 : decode prog_13_method_85_code 51 = .ok (.ifCond .ne 7, 3) := wt_op154 wb18m8_prog_13_method_85_code_c1 23 rfl rfl rfl
theorem wp_md_lost_d54 : decode prog_13_method_85_code 54 = .ok (.iconst 1, 1) := wt_op4 wb18m8_prog_13_method_85_code_c1 26 rfl rfl
theorem wp_md_lost_d55 : decode prog_13_method_85_code 55 = .ok (.goto 4, 3) := wt_op167 wb18m8_prog_13_method_85_code_c1 27 rfl rfl rfl
theorem wp_md_lost_d58 : decode prog_13_method_85_code 58 = .ok (.iconst 0, 1) := wt_op3 wb18m8_prog_13_method_85_code_c2 0 rfl rfl
theorem wp_md_lost_d59 : decode prog_13_method_85_code 59 = .ok (.iadd, 1) := wt_op96 wb18m8_prog_13_method_85_code_c2 1 rfl rfl
theorem wp_md_lost_d60 : decode prog_13_method_85_code 60 = .ok (.istore_n 2, 1) := wt_op61 wb18m8_prog_13_method_85_code_c2 2 rfl rfl
theorem wp_md_lost_d61 : decode prog_13_method_85_code 61 = .ok (.iinc 3 1, 3) := wt_op132 wb18m8_prog_13_method_85_code_c2 3 rfl rfl rfl
theorem wp_md_lost_d64 : decode prog_13_method_85_code 64 = .ok (.goto (-27), 3) := wt_op167 wb18m8_prog_13_method_85_code_c2 6 rfl rfl rfl
theorem wp_md_lost_d67 : decode prog_13_method_85_code 67 = .ok (.aload_n 0, 1) := wt_op42 wb18m8_prog_13_method_85_code_c2 9 rfl rfl
theorem wp_md_lost_d68 : decode prog_13_method_85_code 68 = .ok (.invokevirtual 366, 3) := wt_op182 wb18m8_prog_13_method_85_code_c2 10 rfl rfl rfl
theorem wp_md_lost_d71 : decode prog_13_method_85_code 71 = .ok (.iload_n 2, 1) := wt_op28 wb18m8_prog_13_method_85_code_c2 13 rfl rfl
theorem wp_md_lost_d72 : decode prog_13_method_85_code 72 = .ok (.ireturn, 1) := wt_op172 wb18m8_prog_13_method_85_code_c2 14 rfl rfl
noncomputable def wp_md_lost_B59 (n : Nat) (x3 : Int32) (K37 : Int32 × Int32 × wt_St → Option (Int32 × wt_St)) (y0 : Int32) (y1 : Int32) (σ : wt_St) : Option (Int32 × wt_St) :=
  K37 ((y0 + y1), (x3 + (1 : Int32)), σ)
set_option maxRecDepth 100000 in
set_option maxHeartbeats 4000000 in
theorem wp_md_lost_B59_ok  {x3 : Int32} {X : wt_X} {n : Nat} {res : Int32 × wt_St} (hE : wt_Ok X prog_13_method_85_code 4 "WornTypeModel" 7 0) (hR : wt_Rt X (some .int) (some res.1) res.2) (hD : ∀ i, 108 ≤ i → i < 321 → wt_dom (wt_xw X) i)  {K37 : Int32 × Int32 × wt_St → Option (Int32 × wt_St)} (hK37 : ∀ s : Int32 × Int32 × wt_St, K37 s = some res → wt_V X 0 s.2.2 37 [some (.ref (wt_ad (wt_xw X) 108)), none, some (.int s.1), some (.int s.2.1)] []) {σ : wt_St} {y0 : Int32} {y1 : Int32} (h : wp_md_lost_B59 n x3 K37 y0 y1 σ = some res) : wt_V X 0 σ 59 [some (.ref (wt_ad (wt_xw X) 108)), none, none, some (.int x3)] [.int y1, .int y0] := by
  unfold wp_md_lost_B59 at h
  refine wt_iadd hE wp_md_lost_d59 ?_
  refine wt_istore_n hE [some (.ref (wt_ad (wt_xw X) 108)), none, some (.int (y0 + y1)), some (.int x3)] wp_md_lost_d60 (by decide) rfl ?_
  refine wt_iinc hE (x3 + (1 : Int32)) [some (.ref (wt_ad (wt_xw X) 108)), none, some (.int (y0 + y1)), some (.int (x3 + (1 : Int32)))] wp_md_lost_d61 (by decide) rfl rfl rfl ?_
  refine wt_goto hE 37 wp_md_lost_d64 rfl ?_
  exact hK37 ((y0 + y1), (x3 + (1 : Int32)), σ) h
noncomputable def wp_md_lost_B37 (n : Nat) (K37 : Int32 × Int32 × wt_St → Option (Int32 × wt_St)) (s : Int32 × Int32 × wt_St) : Option (Int32 × wt_St) :=
  if (wt_gf s.2.2 108 28) ≤ s.2.1 then
    (wp_md_putsBack n s.2.2).bind fun q7 =>
    some (s.1, q7)
  else
    (wp_md_canWord n s.2.1 s.2.2).bind fun q8 =>
    if q8.1 = 0 then
      wp_md_lost_B59 n s.2.1 K37 s.1 (1 : Int32) q8.2
    else
      wp_md_lost_B59 n s.2.1 K37 s.1 (0 : Int32) q8.2
set_option maxRecDepth 100000 in
set_option maxHeartbeats 4000000 in
theorem wp_md_lost_B37_ok  {X : wt_X} {n : Nat} {res : Int32 × wt_St} (hE : wt_Ok X prog_13_method_85_code 4 "WornTypeModel" 7 0) (hR : wt_Rt X (some .int) (some res.1) res.2) (hD : ∀ i, 108 ≤ i → i < 321 → wt_dom (wt_xw X) i)  {K37 : Int32 × Int32 × wt_St → Option (Int32 × wt_St)} (hK37 : ∀ s : Int32 × Int32 × wt_St, K37 s = some res → wt_V X 0 s.2.2 37 [some (.ref (wt_ad (wt_xw X) 108)), none, some (.int s.1), some (.int s.2.1)] []) {s : Int32 × Int32 × wt_St} (h : wp_md_lost_B37 n K37 s = some res) : wt_V X 0 s.2.2 37 [some (.ref (wt_ad (wt_xw X) 108)), none, some (.int s.1), some (.int s.2.1)] [] := by
  unfold wp_md_lost_B37 at h
  refine wt_iload_n hE wp_md_lost_d37 rfl ?_
  refine wt_aload_n hE wp_md_lost_d38 rfl ?_
  refine wt_geti hE wt_lf_md_259 (hD 108 (by decide) (by decide)) wt_L108 rfl wp_md_lost_d39 ?_
  refine wt_icmp_ge hE 67 wp_md_lost_d42 rfl (fun c6 => ?_) (fun c6 => ?_)
  · have h := wt_ip c6 h
    refine wt_aload_n hE wp_md_lost_d67 rfl ?_
    obtain ⟨q7, hq7, h⟩ := wt_bi h
    refine wt_callVv hE [] wt_lm_md_366 wt_ya_md_putsBack (wp_md_putsBack_ok hD hq7) (by omega) (hD 108 (by decide) (by decide)) wt_L108 rfl rfl rfl (Nat.le_of_ble_eq_true rfl) (Nat.zero_le _) wp_md_lost_d68 ?_
    refine wt_iload_n hE wp_md_lost_d71 rfl ?_
    cases h
    exact wt_iret hE hR wp_md_lost_d72
  · have h := wt_in c6 h
    refine wt_iload_n hE wp_md_lost_d45 rfl ?_
    refine wt_aload_n hE wp_md_lost_d46 rfl ?_
    refine wt_iload_n hE wp_md_lost_d47 rfl ?_
    obtain ⟨q8, hq8, h⟩ := wt_bi h
    refine wt_callVi hE [.int s.2.1] wt_lm_md_304 wt_ya_md_canWord (wp_md_canWord_ok hD hq8) (by omega) (hD 108 (by decide) (by decide)) wt_L108 rfl rfl rfl (Nat.le_of_ble_eq_true rfl) (Nat.zero_le _) wp_md_lost_d48 (fun hbq8 => ?_)
    refine wt_if_ne hE 58 wp_md_lost_d51 rfl (fun c9 => ?_) (fun c9 => ?_)
    · have h := wt_in c9 h
      refine wt_iconst hE (0 : Int32) wp_md_lost_d58 wt_ci_0 ?_
      refine wt_wk [true, true, false, true] rfl ?_
      exact wp_md_lost_B59_ok hE hR hD hK37 h
    · have h := wt_ip c9 h
      refine wt_iconst hE (1 : Int32) wp_md_lost_d54 wt_ci_1 ?_
      refine wt_goto hE 59 wp_md_lost_d55 rfl ?_
      refine wt_wk [true, true, false, true] rfl ?_
      exact wp_md_lost_B59_ok hE hR hD hK37 h
noncomputable def wp_md_lost_B18 (n : Nat) (x1 : Int32) (y1 : Int32) (σ : wt_St) : Option (Int32 × wt_St) :=
  (wp_md_bad n y1 (1 : Int32) σ).bind fun q3 =>
  if q3.1 = 0 then
    (wp_md_greedyAhead n x1 q3.2).bind fun q5 =>
    wt_it (wp_md_lost_B37 n) n ((0 : Int32), (0 : Int32), q5.2)
  else
    some ((0 : Int32), q3.2)
set_option maxRecDepth 100000 in
set_option maxHeartbeats 4000000 in
theorem wp_md_lost_B18_ok  {x1 : Int32} {X : wt_X} {n : Nat} {res : Int32 × wt_St} (hE : wt_Ok X prog_13_method_85_code 4 "WornTypeModel" 7 0) (hR : wt_Rt X (some .int) (some res.1) res.2) (hD : ∀ i, 108 ≤ i → i < 321 → wt_dom (wt_xw X) i)  {σ : wt_St} {y1 : Int32} (h : wp_md_lost_B18 n x1 y1 σ = some res) : wt_V X 0 σ 18 [some (.ref (wt_ad (wt_xw X) 108)), some (.int x1), none, none] [.int y1, .ref (wt_ad (wt_xw X) 108)] := by
  unfold wp_md_lost_B18 at h
  refine wt_iconst hE (1 : Int32) wp_md_lost_d18 wt_ci_1 ?_
  obtain ⟨q3, hq3, h⟩ := wt_bi h
  refine wt_callVi hE [.int y1, .int (1 : Int32)] wt_lm_md_230 wt_ya_md_bad (wp_md_bad_ok hD hq3) (by omega) (hD 108 (by decide) (by decide)) wt_L108 rfl rfl rfl (Nat.le_of_ble_eq_true rfl) (Nat.zero_le _) wp_md_lost_d19 (fun hbq3 => ?_)
  refine wt_if_eq hE 27 wp_md_lost_d22 rfl (fun c4 => ?_) (fun c4 => ?_)
  · have h := wt_ip c4 h
    refine wt_aload_n hE wp_md_lost_d27 rfl ?_
    refine wt_iload_n hE wp_md_lost_d28 rfl ?_
    obtain ⟨q5, hq5, h⟩ := wt_bi h
    refine wt_callVi hE [.int x1] wt_lm_md_372 wt_ya_md_greedyAhead (wp_md_greedyAhead_ok hD hq5) (by omega) (hD 108 (by decide) (by decide)) wt_L108 rfl rfl rfl (Nat.le_of_ble_eq_true rfl) (Nat.zero_le _) wp_md_lost_d29 (fun hbq5 => ?_)
    refine wt_pop hE wp_md_lost_d32 rfl ?_
    refine wt_iconst hE (0 : Int32) wp_md_lost_d33 wt_ci_0 ?_
    refine wt_istore_n hE [some (.ref (wt_ad (wt_xw X) 108)), some (.int x1), some (.int (0 : Int32)), none] wp_md_lost_d34 (by decide) rfl ?_
    refine wt_iconst hE (0 : Int32) wp_md_lost_d35 wt_ci_0 ?_
    refine wt_istore_n hE [some (.ref (wt_ad (wt_xw X) 108)), some (.int x1), some (.int (0 : Int32)), some (.int (0 : Int32))] wp_md_lost_d36 (by decide) rfl ?_
    refine wt_wk [true, false, true, true] rfl ?_
    exact wt_it_ind (fun z => wt_V X 0 z.2.2 37 [some (.ref (wt_ad (wt_xw X) 108)), none, some (.int z.1), some (.int z.2.1)] []) (fun K hK z h => wp_md_lost_B37_ok hE hR hD hK h) n ((0 : Int32), (0 : Int32), q5.2) h
  · have h := wt_in c4 h
    refine wt_iconst hE (0 : Int32) wp_md_lost_d25 wt_ci_0 ?_
    cases h
    exact wt_iret hE hR wp_md_lost_d26
noncomputable def wp_md_lost (n : Nat) (x1 : Int32) (σ : wt_St) : Option (Int32 × wt_St) :=
  (wp_md_isWeek n x1 (wt_sf σ 108 0 (0 : Int32))).bind fun q1 =>
  if q1.1 = 0 then
    wp_md_lost_B18 n x1 (1 : Int32) q1.2
  else
    wp_md_lost_B18 n x1 (0 : Int32) q1.2
set_option maxRecDepth 100000 in
set_option maxHeartbeats 4000000 in
theorem wp_md_lost_ok {l : Launch} {w : wt_E} {n : Nat} {x1 : Int32} (hD : ∀ i, 108 ≤ i → i < 321 → wt_dom w i) {σ : wt_St} {q : Int32 × wt_St} (h : wp_md_lost n x1 σ = some q) : wt_Ctr l w wt_y_md_lost prog_13_method_85_code 4 (some .int) 7 [.ref (wt_ad w 108), .int x1] σ (some q.1) q.2 := by
  refine wt_ctr wt_pl_md_lost rfl (Nat.le_of_ble_eq_true rfl) [some (.ref (wt_ad w 108)), some (.int x1), none, none] rfl ?_
  intro X hXl hXw hE hR
  subst hXl
  subst hXw
  have hE : wt_Ok X prog_13_method_85_code 4 "WornTypeModel" 7 0 := hE
  unfold wp_md_lost at h
  refine wt_aload_n hE wp_md_lost_d0 rfl ?_
  refine wt_iconst hE (0 : Int32) wp_md_lost_d1 wt_ci_0 ?_
  refine wt_puti hE wt_lf_md_151 (hD 108 (by decide) (by decide)) wt_L108 rfl (fun q hq => by cases hq; rfl) wp_md_lost_d2 ?_
  refine wt_aload_n hE wp_md_lost_d5 rfl ?_
  refine wt_iload_n hE wp_md_lost_d6 rfl ?_
  obtain ⟨q1, hq1, h⟩ := wt_bi h
  refine wt_callSi hE [.int x1] wt_lm_md_378 wt_ya_md_isWeek (wp_md_isWeek_ok hq1) (by omega) rfl rfl (Nat.le_of_ble_eq_true rfl) (Nat.zero_le _) wp_md_lost_d7 (fun hbq1 => ?_)
  refine wt_if_ne hE 17 wp_md_lost_d10 rfl (fun c2 => ?_) (fun c2 => ?_)
  · have h := wt_in c2 h
    refine wt_iconst hE (0 : Int32) wp_md_lost_d17 wt_ci_0 ?_
    exact wp_md_lost_B18_ok hE hR hD h
  · have h := wt_ip c2 h
    refine wt_iconst hE (1 : Int32) wp_md_lost_d13 wt_ci_1 ?_
    refine wt_goto hE 18 wp_md_lost_d14 rfl ?_
    exact wp_md_lost_B18_ok hE hR hD h
def wb18m8_prog_13_method_78_code_r4 : List (List Nat) := [154, 0, 11, 42, 28, 182, 1, 113, 167, 0, 13, 27, 4, 160, 0, 7, 28, 167, 0, 4, 29, 172] :: []
def wb18m8_prog_13_method_78_code_r3 : List (List Nat) := [42, 21, 4, 182, 1, 113, 42, 28, 182, 1, 113, 164, 0, 8, 21, 4, 167, 0, 4, 28, 61, 132, 4, 1, 167, 255, 182, 27] :: wb18m8_prog_13_method_78_code_r4
def wb18m8_prog_13_method_78_code_r2 : List (List Nat) := [182, 1, 106, 2, 159, 0, 7, 4, 167, 0, 4, 3, 54, 5, 42, 182, 1, 110, 21, 5, 154, 0, 6, 167, 0, 27, 132, 3, 1] :: wb18m8_prog_13_method_78_code_r3
def wb18m8_prog_13_method_78_code_r1 : List (List Nat) := [172, 3, 61, 3, 62, 3, 54, 4, 21, 4, 4, 42, 180, 1, 12, 120, 162, 0, 69, 42, 182, 1, 103, 42, 21, 4, 3, 16, 100] :: wb18m8_prog_13_method_78_code_r2
def wb18m8_prog_13_method_78_code_r0 : List (List Nat) := [42, 3, 181, 0, 151, 42, 27, 3, 5, 184, 0, 185, 154, 0, 7, 4, 167, 0, 4, 3, 4, 182, 0, 230, 153, 0, 5, 3] :: wb18m8_prog_13_method_78_code_r1
set_option maxRecDepth 100000 in
theorem wb18m8_prog_13_method_78_code_c0 : wt_cs prog_13_method_78_code 0 wb18m8_prog_13_method_78_code_r0 := wt_cs_of (by decide +kernel)
theorem wb18m8_prog_13_method_78_code_c1 : wt_cs prog_13_method_78_code 28 wb18m8_prog_13_method_78_code_r1 := wt_cs_tl (m := 28) wb18m8_prog_13_method_78_code_c0 rfl rfl
theorem wb18m8_prog_13_method_78_code_c2 : wt_cs prog_13_method_78_code 57 wb18m8_prog_13_method_78_code_r2 := wt_cs_tl (m := 29) wb18m8_prog_13_method_78_code_c1 rfl rfl
theorem wb18m8_prog_13_method_78_code_c3 : wt_cs prog_13_method_78_code 86 wb18m8_prog_13_method_78_code_r3 := wt_cs_tl (m := 29) wb18m8_prog_13_method_78_code_c2 rfl rfl
theorem wb18m8_prog_13_method_78_code_c4 : wt_cs prog_13_method_78_code 114 wb18m8_prog_13_method_78_code_r4 := wt_cs_tl (m := 28) wb18m8_prog_13_method_78_code_c3 rfl rfl
theorem wp_md_most_d0 : decode prog_13_method_78_code 0 = .ok (.aload_n 0, 1) := wt_op42 wb18m8_prog_13_method_78_code_c0 0 rfl rfl
theorem wp_md_most_d1 : decode prog_13_method_78_code 1 = .ok (.iconst 0, 1) := wt_op3 wb18m8_prog_13_method_78_code_c0 1 rfl rfl
theorem wp_md_most_d2 : decode prog_13_method_78_code 2 = .ok (.putfield 151, 3) := wt_op181 wb18m8_prog_13_method_78_code_c0 2 rfl rfl rfl
theorem wp_md_most_d5 : decode prog_13_method_78_code 5 = .ok (.aload_n 0, 1) := wt_op42 wb18m8_prog_13_method_78_code_c0 5 rfl rfl
theorem wp_md_most_d6 : decode prog_13_method_78_code 6 = .ok (.iload_n 1, 1) := wt_op27 wb18m8_prog_13_method_78_code_c0 6 rfl rfl
theorem wp_md_most_d7 : decode prog_13_method_78_code 7 = .ok (.iconst 0, 1) := wt_op3 wb18m8_prog_13_method_78_code_c0 7 rfl rfl
theorem wp_md_most_d8 : decode prog_13_method_78_code 8 = .ok (.iconst 2, 1) := wt_op5 wb18m8_prog_13_method_78_code_c0 8 rfl rfl
theorem wp_md_most_d9 : decode prog_13_method_78_code 9 = .ok (.invokestatic 185, 3) := wt_op184 wb18m8_prog_13_method_78_code_c0 9 rfl rfl rfl
theorem wp_md_most_d12 : decode prog_13_method_78_code 12 = .ok (.ifCond .ne 7, 3) := wt_op154 wb18m8_prog_13_method_78_code_c0 12 rfl rfl rfl
theorem wp_md_most_d15 : decode prog_13_method_78_code 15 = .ok (.iconst 1, 1) := wt_op4 wb18m8_prog_13_method_78_code_c0 15 rfl rfl
theorem wp_md_most_d16 : decode prog_13_method_78_code 16 = .ok (.goto 4, 3) := wt_op167 wb18m8_prog_13_method_78_code_c0 16 rfl rfl rfl
theorem wp_md_most_d19 : decode prog_13_method_78_code 19 = .ok (.iconst 0, 1) := wt_op3 wb18m8_prog_13_method_78_code_c0 19 rfl rfl
theorem wp_md_most_d20 : decode prog_13_method_78_code 20 = .ok (.iconst 1, 1) := wt_op4 wb18m8_prog_13_method_78_code_c0 20 rfl rfl
theorem wp_md_most_d21 : decode prog_13_method_78_code 21 = .ok (.invokevirtual 230, 3) := wt_op182 wb18m8_prog_13_method_78_code_c0 21 rfl rfl rfl
theorem wp_md_most_d24 : decode prog_13_method_78_code 24 = .ok (.ifCond .eq 5, 3) := wt_op153 wb18m8_prog_13_method_78_code_c0 24 rfl rfl rfl
theorem wp_md_most_d27 : decode prog_13_method_78_code 27 = .ok (.iconst 0, 1) := wt_op3 wb18m8_prog_13_method_78_code_c0 27 rfl rfl
theorem wp_md_most_d28 : decode prog_13_method_78_code 28 = .ok (.ireturn, 1) := wt_op172 wb18m8_prog_13_method_78_code_c1 0 rfl rfl
theorem wp_md_most_d29 : decode prog_13_method_78_code 29 = .ok (.iconst 0, 1) := wt_op3 wb18m8_prog_13_method_78_code_c1 1 rfl rfl
theorem wp_md_most_d30 : decode prog_13_method_78_code 30 = .ok (.istore_n 2, 1) := wt_op61 wb18m8_prog_13_method_78_code_c1 2 rfl rfl
theorem wp_md_most_d31 : decode prog_13_method_78_code 31 = .ok (.iconst 0, 1) := wt_op3 wb18m8_prog_13_method_78_code_c1 3 rfl rfl
theorem wp_md_most_d32 : decode prog_13_method_78_code 32 = .ok (.istore_n 3, 1) := wt_op62 wb18m8_prog_13_method_78_code_c1 4 rfl rfl
theorem wp_md_most_d33 : decode prog_13_method_78_code 33 = .ok (.iconst 0, 1) := wt_op3 wb18m8_prog_13_method_78_code_c1 5 rfl rfl
theorem wp_md_most_d34 : decode prog_13_method_78_code 34 = .ok (.istore 4, 2) := wt_op54 wb18m8_prog_13_method_78_code_c1 6 rfl rfl
theorem wp_md_most_d36 : decode prog_13_method_78_code 36 = .ok (.iload 4, 2) := wt_op21 wb18m8_prog_13_method_78_code_c1 8 rfl rfl
theorem wp_md_most_d38 : decode prog_13_method_78_code 38 = .ok (.iconst 1, 1) := wt_op4 wb18m8_prog_13_method_78_code_c1 10 rfl rfl
theorem wp_md_most_d39 : decode prog_13_method_78_code 39 = .ok (.aload_n 0, 1) := wt_op42 wb18m8_prog_13_method_78_code_c1 11 rfl rfl
theorem wp_md_most_d40 : decode prog_13_method_78_code 40 = .ok (.getfield 268, 3) := wt_op180 wb18m8_prog_13_method_78_code_c1 12 rfl rfl rfl
theorem wp_md_most_d43 : decode prog_13_method_78_code 43 = .ok (.ishl, 1) := wt_op120 wb18m8_prog_13_method_78_code_c1 15 rfl rfl
theorem wp_md_most_d44 : decode prog_13_method_78_code 44 = .ok (.if_icmp .ge 69, 3) := wt_op162 wb18m8_prog_13_method_78_code_c1 16 rfl rfl rfl
theorem wp_md_most_d47 : decode prog_13_method_78_code 47 = .ok (.aload_n 0, 1) := wt_op42 wb18m8_prog_13_method_78_code_c1 19 rfl rfl
theorem wp_md_most_d48 : decode prog_13_method_78_code 48 = .ok (.invokevirtual 359, 3) := wt_op182 wb18m8_prog_13_method_78_code_c1 20 rfl rfl rfl
theorem wp_md_most_d51 : decode prog_13_method_78_code 51 = .ok (.aload_n 0, 1) := wt_op42 wb18m8_prog_13_method_78_code_c1 23 rfl rfl
theorem wp_md_most_d52 : decode prog_13_method_78_code 52 = .ok (.iload 4, 2) := wt_op21 wb18m8_prog_13_method_78_code_c1 24 rfl rfl
theorem wp_md_most_d54 : decode prog_13_method_78_code 54 = .ok (.iconst 0, 1) := wt_op3 wb18m8_prog_13_method_78_code_c1 26 rfl rfl
theorem wp_md_most_d55 : decode prog_13_method_78_code 55 = .ok (.bipush 100, 2) := wt_op16 wb18m8_prog_13_method_78_code_c1 27 rfl rfl rfl
theorem wp_md_most_d57 : decode prog_13_method_78_code 57 = .ok (.invokevirtual 362, 3) := wt_op182 wb18m8_prog_13_method_78_code_c2 0 rfl rfl rfl
theorem wp_md_most_d60 : decode prog_13_method_78_code 60 = .ok (.iconst (-1), 1) := wt_op2 wb18m8_prog_13_method_78_code_c2 3 rfl rfl
theorem wp_md_most_d61 : decode prog_13_method_78_code 61 = .ok (.if_icmp .eq 7, 3) := wt_op159 wb18m8_prog_13_method_78_code_c2 4 rfl rfl rfl
theorem wp_md_most_d64 : decode prog_13_method_78_code 64 = .ok (.iconst 1, 1) := wt_op4 wb18m8_prog_13_method_78_code_c2 7 rfl rfl
theorem wp_md_most_d65 : decode prog_13_method_78_code 65 = .ok (.goto 4, 3) := wt_op167 wb18m8_prog_13_method_78_code_c2 8 rfl rfl rfl
theorem wp_md_most_d68 : decode prog_13_method_78_code 68 = .ok (.iconst 0, 1) := wt_op3 wb18m8_prog_13_method_78_code_c2 11 rfl rfl
theorem wp_md_most_d69 : decode prog_13_method_78_code 69 = .ok (.istore 5, 2) := wt_op54 wb18m8_prog_13_method_78_code_c2 12 rfl rfl
theorem wp_md_most_d71 : decode prog_13_method_78_code 71 = .ok (.aload_n 0, 1) := wt_op42 wb18m8_prog_13_method_78_code_c2 14 rfl rfl
theorem wp_md_most_d72 : decode prog_13_method_78_code 72 = .ok (.invokevirtual 366, 3) := wt_op182 wb18m8_prog_13_method_78_code_c2 15 rfl rfl rfl
theorem wp_md_most_d75 : decode prog_13_method_78_code 75 = .ok (.iload 5, 2) := wt_op21 wb18m8_prog_13_method_78_code_c2 18 rfl rfl
theorem wp_md_most_d77 : decode prog_13_method_78_code 77 = .ok (.ifCond .ne 6, 3) := wt_op154 wb18m8_prog_13_method_78_code_c2 20 rfl rfl rfl
theorem wp_md_most_d80 : decode prog_13_method_78_code 80 = .ok (.goto 27, 3) := wt_op167 wb18m8_prog_13_method_78_code_c2 23 rfl rfl rfl
theorem wp_md_most_d83 : decode prog_13_method_78_code 83 = .ok (.iinc 3 1, 3) := wt_op132 wb18m8_prog_13_method_78_code_c2 26 rfl rfl rfl
theorem wp_md_most_d86 : decode prog_13_method_78_code 86 = .ok (.aload_n 0, 1) := wt_op42 wb18m8_prog_13_method_78_code_c3 0 rfl rfl
theorem wp_md_most_d87 : decode prog_13_method_78_code 87 = .ok (.iload 4, 2) := wt_op21 wb18m8_prog_13_method_78_code_c3 1 rfl rfl
theorem wp_md_most_d89 : decode prog_13_method_78_code 89 = .ok (.invokevirtual 369, 3) := wt_op182 wb18m8_prog_13_method_78_code_c3 3 rfl rfl rfl
theorem wp_md_most_d92 : decode prog_13_method_78_code 92 = .ok (.aload_n 0, 1) := wt_op42 wb18m8_prog_13_method_78_code_c3 6 rfl rfl
theorem wp_md_most_d93 : decode prog_13_method_78_code 93 = .ok (.iload_n 2, 1) := wt_op28 wb18m8_prog_13_method_78_code_c3 7 rfl rfl
theorem wp_md_most_d94 : decode prog_13_method_78_code 94 = .ok (.invokevirtual 369, 3) := wt_op182 wb18m8_prog_13_method_78_code_c3 8 rfl rfl rfl
theorem wp_md_most_d97 : decode prog_13_method_78_code 97 = .ok (.if_icmp .le 8, 3) := wt_op164 wb18m8_prog_13_method_78_code_c3 11 rfl rfl rfl
theorem wp_md_most_d100 : decode prog_13_method_78_code 100 = .ok (.iload 4, 2) := wt_op21 wb18m8_prog_13_method_78_code_c3 14 rfl rfl
theorem wp_md_most_d102 : decode prog_13_method_78_code 102 = .ok (.goto 4, 3) := wt_op167 wb18m8_prog_13_method_78_code_c3 16 rfl rfl rfl
theorem wp_md_most_d105 : decode prog_13_method_78_code 105 = .ok (.iload_n 2, 1) := wt_op28 wb18m8_prog_13_method_78_code_c3 19 rfl rfl
theorem wp_md_most_d106 : decode prog_13_method_78_code 106 = .ok (.istore_n 2, 1) := wt_op61 wb18m8_prog_13_method_78_code_c3 20 rfl rfl
theorem wp_md_most_d107 : decode prog_13_method_78_code 107 = .ok (.iinc 4 1, 3) := wt_op132 wb18m8_prog_13_method_78_code_c3 21 rfl rfl rfl
theorem wp_md_most_d110 : decode prog_13_method_78_code 110 = .ok (.goto (-74), 3) := wt_op167 wb18m8_prog_13_method_78_code_c3 24 rfl rfl rfl
theorem wp_md_most_d113 : decode prog_13_method_78_code 113 = .ok (.iload_n 1, 1) := wt_op27 wb18m8_prog_13_method_78_code_c3 27 rfl rfl
theorem wp_md_most_d114 : decode prog_13_method_78_code 114 = .ok (.ifCond .ne 11, 3) := wt_op154 wb18m8_prog_13_method_78_code_c4 0 rfl rfl rfl
theorem wp_md_most_d117 : decode prog_13_method_78_code 117 = .ok (.aload_n 0, 1) := wt_op42 wb18m8_prog_13_method_78_code_c4 3 rfl rfl
theorem wp_md_most_d118 : decode prog_13_method_78_code 118 = .ok (.iload_n 2, 1) := wt_op28 wb18m8_prog_13_method_78_code_c4 4 rfl rfl
theorem wp_md_most_d119 : decode prog_13_method_78_code 119 = .ok (.invokevirtual 369, 3) := wt_op182 wb18m8_prog_13_method_78_code_c4 5 rfl rfl rfl
theorem wp_md_most_d122 : decode prog_13_method_78_code 122 = .ok (.goto 13, 3) := wt_op167 wb18m8_prog_13_method_78_code_c4 8 rfl rfl rfl
theorem wp_md_most_d125 : decode prog_13_method_78_code 125 = .ok (.iload_n 1, 1) := wt_op27 wb18m8_prog_13_method_78_code_c4 11 rfl rfl
theorem wp_md_most_d126 : decode prog_13_method_78_code 126 = .ok (.iconst 1, 1) := wt_op4 wb18m8_prog_13_method_78_code_c4 12 rfl rfl
theorem wp_md_most_d127 : decode prog_13_method_78_code 127 = .ok (.if_icmp .ne 7, 3) := wt_op160 wb18m8_prog_13_method_78_code_c4 13 rfl rfl rfl
theorem wp_md_most_d130 : decode prog_13_method_78_code 130 = .ok (.iload_n 2, 1) := wt_op28 wb18m8_prog_13_method_78_code_c4 16 rfl rfl
theorem wp_md_most_d131 : decode prog_13_method_78_code 131 = .ok (.goto 4, 3) := wt_op167 wb18m8_prog_13_method_78_code_c4 17 rfl rfl rfl
theorem wp_md_most_d134 : decode prog_13_method_78_code 134 = .ok (.iload_n 3, 1) := wt_op29 wb18m8_prog_13_method_78_code_c4 20 rfl rfl
theorem wp_md_most_d135 : decode prog_13_method_78_code 135 = .ok (.ireturn, 1) := wt_op172 wb18m8_prog_13_method_78_code_c4 21 rfl rfl
noncomputable def wp_md_most_B107 (n : Nat) (x1 : Int32) (x2 : Int32) (x3 : Int32) (x4 : Int32) (K36 : Int32 × Int32 × Int32 × wt_St → Option (Int32 × wt_St)) (σ : wt_St) : Option (Int32 × wt_St) :=
  K36 (x2, x3, (x4 + (1 : Int32)), σ)
set_option maxRecDepth 100000 in
set_option maxHeartbeats 4000000 in
theorem wp_md_most_B107_ok  {x1 : Int32} {x2 : Int32} {x3 : Int32} {x4 : Int32} {X : wt_X} {n : Nat} {res : Int32 × wt_St} (hE : wt_Ok X prog_13_method_78_code 6 "WornTypeModel" 6 0) (hR : wt_Rt X (some .int) (some res.1) res.2) (hD : ∀ i, 108 ≤ i → i < 321 → wt_dom (wt_xw X) i)  {K36 : Int32 × Int32 × Int32 × wt_St → Option (Int32 × wt_St)} (hK36 : ∀ s : Int32 × Int32 × Int32 × wt_St, K36 s = some res → wt_V X 0 s.2.2.2 36 [some (.ref (wt_ad (wt_xw X) 108)), some (.int x1), some (.int s.1), some (.int s.2.1), some (.int s.2.2.1), none] []) {σ : wt_St} (h : wp_md_most_B107 n x1 x2 x3 x4 K36 σ = some res) : wt_V X 0 σ 107 [some (.ref (wt_ad (wt_xw X) 108)), some (.int x1), some (.int x2), some (.int x3), some (.int x4), none] [] := by
  unfold wp_md_most_B107 at h
  refine wt_iinc hE (x4 + (1 : Int32)) [some (.ref (wt_ad (wt_xw X) 108)), some (.int x1), some (.int x2), some (.int x3), some (.int (x4 + (1 : Int32))), none] wp_md_most_d107 (by decide) rfl rfl rfl ?_
  refine wt_goto hE 36 wp_md_most_d110 rfl ?_
  exact hK36 (x2, x3, (x4 + (1 : Int32)), σ) h
noncomputable def wp_md_most_B106 (n : Nat) (x1 : Int32) (x3 : Int32) (x4 : Int32) (K36 : Int32 × Int32 × Int32 × wt_St → Option (Int32 × wt_St)) (y0 : Int32) (σ : wt_St) : Option (Int32 × wt_St) :=
  wp_md_most_B107 n x1 y0 x3 x4 K36 σ
set_option maxRecDepth 100000 in
set_option maxHeartbeats 4000000 in
theorem wp_md_most_B106_ok  {x1 : Int32} {x3 : Int32} {x4 : Int32} {X : wt_X} {n : Nat} {res : Int32 × wt_St} (hE : wt_Ok X prog_13_method_78_code 6 "WornTypeModel" 6 0) (hR : wt_Rt X (some .int) (some res.1) res.2) (hD : ∀ i, 108 ≤ i → i < 321 → wt_dom (wt_xw X) i)  {K36 : Int32 × Int32 × Int32 × wt_St → Option (Int32 × wt_St)} (hK36 : ∀ s : Int32 × Int32 × Int32 × wt_St, K36 s = some res → wt_V X 0 s.2.2.2 36 [some (.ref (wt_ad (wt_xw X) 108)), some (.int x1), some (.int s.1), some (.int s.2.1), some (.int s.2.2.1), none] []) {σ : wt_St} {y0 : Int32} (h : wp_md_most_B106 n x1 x3 x4 K36 y0 σ = some res) : wt_V X 0 σ 106 [some (.ref (wt_ad (wt_xw X) 108)), some (.int x1), none, some (.int x3), some (.int x4), none] [.int y0] := by
  unfold wp_md_most_B106 at h
  refine wt_istore_n hE [some (.ref (wt_ad (wt_xw X) 108)), some (.int x1), some (.int y0), some (.int x3), some (.int x4), none] wp_md_most_d106 (by decide) rfl ?_
  exact wp_md_most_B107_ok hE hR hD hK36 h
noncomputable def wp_md_most_B69 (n : Nat) (x1 : Int32) (x2 : Int32) (x3 : Int32) (x4 : Int32) (K36 : Int32 × Int32 × Int32 × wt_St → Option (Int32 × wt_St)) (y0 : Int32) (σ : wt_St) : Option (Int32 × wt_St) :=
  (wp_md_putsBack n σ).bind fun q12 =>
  if y0 = 0 then
    wp_md_most_B107 n x1 x2 x3 x4 K36 q12
  else
    (wp_md_worthOf n x4 q12).bind fun q14 =>
    (wp_md_worthOf n x2 q14.2).bind fun q15 =>
    if q14.1 ≤ q15.1 then
      wp_md_most_B106 n x1 (x3 + (1 : Int32)) x4 K36 x2 q15.2
    else
      wp_md_most_B106 n x1 (x3 + (1 : Int32)) x4 K36 x4 q15.2
set_option maxRecDepth 100000 in
set_option maxHeartbeats 4000000 in
theorem wp_md_most_B69_ok  {x1 : Int32} {x2 : Int32} {x3 : Int32} {x4 : Int32} {X : wt_X} {n : Nat} {res : Int32 × wt_St} (hE : wt_Ok X prog_13_method_78_code 6 "WornTypeModel" 6 0) (hR : wt_Rt X (some .int) (some res.1) res.2) (hD : ∀ i, 108 ≤ i → i < 321 → wt_dom (wt_xw X) i)  {K36 : Int32 × Int32 × Int32 × wt_St → Option (Int32 × wt_St)} (hK36 : ∀ s : Int32 × Int32 × Int32 × wt_St, K36 s = some res → wt_V X 0 s.2.2.2 36 [some (.ref (wt_ad (wt_xw X) 108)), some (.int x1), some (.int s.1), some (.int s.2.1), some (.int s.2.2.1), none] []) {σ : wt_St} {y0 : Int32} (h : wp_md_most_B69 n x1 x2 x3 x4 K36 y0 σ = some res) : wt_V X 0 σ 69 [some (.ref (wt_ad (wt_xw X) 108)), some (.int x1), some (.int x2), some (.int x3), some (.int x4), none] [.int y0] := by
  unfold wp_md_most_B69 at h
  refine wt_istore hE [some (.ref (wt_ad (wt_xw X) 108)), some (.int x1), some (.int x2), some (.int x3), some (.int x4), some (.int y0)] wp_md_most_d69 (Nat.le_of_ble_eq_true rfl) rfl ?_
  refine wt_aload_n hE wp_md_most_d71 rfl ?_
  obtain ⟨q12, hq12, h⟩ := wt_bi h
  refine wt_callVv hE [] wt_lm_md_366 wt_ya_md_putsBack (wp_md_putsBack_ok hD hq12) (by omega) (hD 108 (by decide) (by decide)) wt_L108 rfl rfl rfl (Nat.le_of_ble_eq_true rfl) (Nat.zero_le _) wp_md_most_d72 ?_
  refine wt_iload hE wp_md_most_d75 rfl ?_
  refine wt_if_ne hE 83 wp_md_most_d77 rfl (fun c13 => ?_) (fun c13 => ?_)
  · have h := wt_in c13 h
    refine wt_iinc hE (x3 + (1 : Int32)) [some (.ref (wt_ad (wt_xw X) 108)), some (.int x1), some (.int x2), some (.int (x3 + (1 : Int32))), some (.int x4), some (.int y0)] wp_md_most_d83 (by decide) rfl rfl rfl ?_
    refine wt_aload_n hE wp_md_most_d86 rfl ?_
    refine wt_iload hE wp_md_most_d87 rfl ?_
    obtain ⟨q14, hq14, h⟩ := wt_bi h
    refine wt_callVi hE [.int x4] wt_lm_md_369 wt_ya_md_worthOf (wp_md_worthOf_ok hD hq14) (by omega) (hD 108 (by decide) (by decide)) wt_L108 rfl rfl rfl (Nat.le_of_ble_eq_true rfl) (Nat.zero_le _) wp_md_most_d89 (fun hbq14 => ?_)
    refine wt_aload_n hE wp_md_most_d92 rfl ?_
    refine wt_iload_n hE wp_md_most_d93 rfl ?_
    obtain ⟨q15, hq15, h⟩ := wt_bi h
    refine wt_callVi hE [.int x2] wt_lm_md_369 wt_ya_md_worthOf (wp_md_worthOf_ok hD hq15) (by omega) (hD 108 (by decide) (by decide)) wt_L108 rfl rfl rfl (Nat.le_of_ble_eq_true rfl) (Nat.zero_le _) wp_md_most_d94 (fun hbq15 => ?_)
    refine wt_icmp_le hE 105 wp_md_most_d97 rfl (fun c16 => ?_) (fun c16 => ?_)
    · have h := wt_ip c16 h
      refine wt_iload_n hE wp_md_most_d105 rfl ?_
      refine wt_wk [true, true, false, true, true, false] rfl ?_
      exact wp_md_most_B106_ok hE hR hD hK36 h
    · have h := wt_in c16 h
      refine wt_iload hE wp_md_most_d100 rfl ?_
      refine wt_goto hE 106 wp_md_most_d102 rfl ?_
      refine wt_wk [true, true, false, true, true, false] rfl ?_
      exact wp_md_most_B106_ok hE hR hD hK36 h
  · have h := wt_ip c13 h
    refine wt_goto hE 107 wp_md_most_d80 rfl ?_
    refine wt_wk [true, true, true, true, true, false] rfl ?_
    exact wp_md_most_B107_ok hE hR hD hK36 h
noncomputable def wp_md_most_B36 (n : Nat) (x1 : Int32) (K36 : Int32 × Int32 × Int32 × wt_St → Option (Int32 × wt_St)) (s : Int32 × Int32 × Int32 × wt_St) : Option (Int32 × wt_St) :=
  if ((1 : Int32) <<< ((wt_gf s.2.2.2 108 40) &&& 31)) ≤ s.2.2.1 then
    if x1 = 0 then
      (wp_md_worthOf n s.1 s.2.2.2).bind fun q8 =>
      some (q8.1, q8.2)
    else
      if x1 = (1 : Int32) then
        some (s.1, s.2.2.2)
      else
        some (s.2.1, s.2.2.2)
  else
    (wp_md_puts n s.2.2.2).bind fun q9 =>
    (wp_md_prints n s.2.2.1 (0 : Int32) (100 : Int32) q9).bind fun q10 =>
    if q10.1 = (-1 : Int32) then
      wp_md_most_B69 n x1 s.1 s.2.1 s.2.2.1 K36 (0 : Int32) q10.2
    else
      wp_md_most_B69 n x1 s.1 s.2.1 s.2.2.1 K36 (1 : Int32) q10.2
set_option maxRecDepth 100000 in
set_option maxHeartbeats 4000000 in
theorem wp_md_most_B36_ok  {x1 : Int32} {X : wt_X} {n : Nat} {res : Int32 × wt_St} (hE : wt_Ok X prog_13_method_78_code 6 "WornTypeModel" 6 0) (hR : wt_Rt X (some .int) (some res.1) res.2) (hD : ∀ i, 108 ≤ i → i < 321 → wt_dom (wt_xw X) i)  {K36 : Int32 × Int32 × Int32 × wt_St → Option (Int32 × wt_St)} (hK36 : ∀ s : Int32 × Int32 × Int32 × wt_St, K36 s = some res → wt_V X 0 s.2.2.2 36 [some (.ref (wt_ad (wt_xw X) 108)), some (.int x1), some (.int s.1), some (.int s.2.1), some (.int s.2.2.1), none] []) {s : Int32 × Int32 × Int32 × wt_St} (h : wp_md_most_B36 n x1 K36 s = some res) : wt_V X 0 s.2.2.2 36 [some (.ref (wt_ad (wt_xw X) 108)), some (.int x1), some (.int s.1), some (.int s.2.1), some (.int s.2.2.1), none] [] := by
  unfold wp_md_most_B36 at h
  refine wt_iload hE wp_md_most_d36 rfl ?_
  refine wt_iconst hE (1 : Int32) wp_md_most_d38 wt_ci_1 ?_
  refine wt_aload_n hE wp_md_most_d39 rfl ?_
  refine wt_geti hE wt_lf_md_268 (hD 108 (by decide) (by decide)) wt_L108 rfl wp_md_most_d40 ?_
  refine wt_ishl hE wp_md_most_d43 ?_
  refine wt_icmp_ge hE 113 wp_md_most_d44 rfl (fun c5 => ?_) (fun c5 => ?_)
  · have h := wt_ip c5 h
    refine wt_iload_n hE wp_md_most_d113 rfl ?_
    refine wt_if_ne hE 125 wp_md_most_d114 rfl (fun c6 => ?_) (fun c6 => ?_)
    · have h := wt_in c6 h
      refine wt_iload_n hE wp_md_most_d125 rfl ?_
      refine wt_iconst hE (1 : Int32) wp_md_most_d126 wt_ci_1 ?_
      refine wt_icmp_ne hE 134 wp_md_most_d127 rfl (fun c7 => ?_) (fun c7 => ?_)
      · have h := wt_in c7 h
        refine wt_iload_n hE wp_md_most_d134 rfl ?_
        cases h
        exact wt_iret hE hR wp_md_most_d135
      · have h := wt_ip c7 h
        refine wt_iload_n hE wp_md_most_d130 rfl ?_
        refine wt_goto hE 135 wp_md_most_d131 rfl ?_
        cases h
        exact wt_iret hE hR wp_md_most_d135
    · have h := wt_ip c6 h
      refine wt_aload_n hE wp_md_most_d117 rfl ?_
      refine wt_iload_n hE wp_md_most_d118 rfl ?_
      obtain ⟨q8, hq8, h⟩ := wt_bi h
      refine wt_callVi hE [.int s.1] wt_lm_md_369 wt_ya_md_worthOf (wp_md_worthOf_ok hD hq8) (by omega) (hD 108 (by decide) (by decide)) wt_L108 rfl rfl rfl (Nat.le_of_ble_eq_true rfl) (Nat.zero_le _) wp_md_most_d119 (fun hbq8 => ?_)
      refine wt_goto hE 135 wp_md_most_d122 rfl ?_
      cases h
      exact wt_iret hE hR wp_md_most_d135
  · have h := wt_in c5 h
    refine wt_aload_n hE wp_md_most_d47 rfl ?_
    obtain ⟨q9, hq9, h⟩ := wt_bi h
    refine wt_callVv hE [] wt_lm_md_359 wt_ya_md_puts (wp_md_puts_ok hD hq9) (by omega) (hD 108 (by decide) (by decide)) wt_L108 rfl rfl rfl (Nat.le_of_ble_eq_true rfl) (Nat.zero_le _) wp_md_most_d48 ?_
    refine wt_aload_n hE wp_md_most_d51 rfl ?_
    refine wt_iload hE wp_md_most_d52 rfl ?_
    refine wt_iconst hE (0 : Int32) wp_md_most_d54 wt_ci_0 ?_
    refine wt_bipush hE (100 : Int32) wp_md_most_d55 wt_cb_100 ?_
    obtain ⟨q10, hq10, h⟩ := wt_bi h
    refine wt_callVi hE [.int s.2.2.1, .int (0 : Int32), .int (100 : Int32)] wt_lm_md_362 wt_ya_md_prints (wp_md_prints_ok hD hq10) (by omega) (hD 108 (by decide) (by decide)) wt_L108 rfl rfl rfl (Nat.le_of_ble_eq_true rfl) (Nat.zero_le _) wp_md_most_d57 (fun hbq10 => ?_)
    refine wt_iconst hE (-1 : Int32) wp_md_most_d60 wt_ci_m1 ?_
    refine wt_icmp_eq hE 68 wp_md_most_d61 rfl (fun c11 => ?_) (fun c11 => ?_)
    · have h := wt_ip c11 h
      refine wt_iconst hE (0 : Int32) wp_md_most_d68 wt_ci_0 ?_
      exact wp_md_most_B69_ok hE hR hD hK36 h
    · have h := wt_in c11 h
      refine wt_iconst hE (1 : Int32) wp_md_most_d64 wt_ci_1 ?_
      refine wt_goto hE 69 wp_md_most_d65 rfl ?_
      exact wp_md_most_B69_ok hE hR hD hK36 h
noncomputable def wp_md_most_B20 (n : Nat) (x1 : Int32) (y1 : Int32) (σ : wt_St) : Option (Int32 × wt_St) :=
  (wp_md_bad n y1 (1 : Int32) σ).bind fun q3 =>
  if q3.1 = 0 then
    wt_it (wp_md_most_B36 n x1) n ((0 : Int32), (0 : Int32), (0 : Int32), q3.2)
  else
    some ((0 : Int32), q3.2)
set_option maxRecDepth 100000 in
set_option maxHeartbeats 4000000 in
theorem wp_md_most_B20_ok  {x1 : Int32} {X : wt_X} {n : Nat} {res : Int32 × wt_St} (hE : wt_Ok X prog_13_method_78_code 6 "WornTypeModel" 6 0) (hR : wt_Rt X (some .int) (some res.1) res.2) (hD : ∀ i, 108 ≤ i → i < 321 → wt_dom (wt_xw X) i)  {σ : wt_St} {y1 : Int32} (h : wp_md_most_B20 n x1 y1 σ = some res) : wt_V X 0 σ 20 [some (.ref (wt_ad (wt_xw X) 108)), some (.int x1), none, none, none, none] [.int y1, .ref (wt_ad (wt_xw X) 108)] := by
  unfold wp_md_most_B20 at h
  refine wt_iconst hE (1 : Int32) wp_md_most_d20 wt_ci_1 ?_
  obtain ⟨q3, hq3, h⟩ := wt_bi h
  refine wt_callVi hE [.int y1, .int (1 : Int32)] wt_lm_md_230 wt_ya_md_bad (wp_md_bad_ok hD hq3) (by omega) (hD 108 (by decide) (by decide)) wt_L108 rfl rfl rfl (Nat.le_of_ble_eq_true rfl) (Nat.zero_le _) wp_md_most_d21 (fun hbq3 => ?_)
  refine wt_if_eq hE 29 wp_md_most_d24 rfl (fun c4 => ?_) (fun c4 => ?_)
  · have h := wt_ip c4 h
    refine wt_iconst hE (0 : Int32) wp_md_most_d29 wt_ci_0 ?_
    refine wt_istore_n hE [some (.ref (wt_ad (wt_xw X) 108)), some (.int x1), some (.int (0 : Int32)), none, none, none] wp_md_most_d30 (by decide) rfl ?_
    refine wt_iconst hE (0 : Int32) wp_md_most_d31 wt_ci_0 ?_
    refine wt_istore_n hE [some (.ref (wt_ad (wt_xw X) 108)), some (.int x1), some (.int (0 : Int32)), some (.int (0 : Int32)), none, none] wp_md_most_d32 (by decide) rfl ?_
    refine wt_iconst hE (0 : Int32) wp_md_most_d33 wt_ci_0 ?_
    refine wt_istore hE [some (.ref (wt_ad (wt_xw X) 108)), some (.int x1), some (.int (0 : Int32)), some (.int (0 : Int32)), some (.int (0 : Int32)), none] wp_md_most_d34 (Nat.le_of_ble_eq_true rfl) rfl ?_
    exact wt_it_ind (fun z => wt_V X 0 z.2.2.2 36 [some (.ref (wt_ad (wt_xw X) 108)), some (.int x1), some (.int z.1), some (.int z.2.1), some (.int z.2.2.1), none] []) (fun K hK z h => wp_md_most_B36_ok hE hR hD hK h) n ((0 : Int32), (0 : Int32), (0 : Int32), q3.2) h
  · have h := wt_in c4 h
    refine wt_iconst hE (0 : Int32) wp_md_most_d27 wt_ci_0 ?_
    cases h
    exact wt_iret hE hR wp_md_most_d28
noncomputable def wp_md_most (n : Nat) (x1 : Int32) (σ : wt_St) : Option (Int32 × wt_St) :=
  (wp_md_in n x1 (0 : Int32) (2 : Int32) (wt_sf σ 108 0 (0 : Int32))).bind fun q1 =>
  if q1.1 = 0 then
    wp_md_most_B20 n x1 (1 : Int32) q1.2
  else
    wp_md_most_B20 n x1 (0 : Int32) q1.2
set_option maxRecDepth 100000 in
set_option maxHeartbeats 4000000 in
theorem wp_md_most_ok {l : Launch} {w : wt_E} {n : Nat} {x1 : Int32} (hD : ∀ i, 108 ≤ i → i < 321 → wt_dom w i) {σ : wt_St} {q : Int32 × wt_St} (h : wp_md_most n x1 σ = some q) : wt_Ctr l w wt_y_md_most prog_13_method_78_code 6 (some .int) 6 [.ref (wt_ad w 108), .int x1] σ (some q.1) q.2 := by
  refine wt_ctr wt_pl_md_most rfl (Nat.le_of_ble_eq_true rfl) [some (.ref (wt_ad w 108)), some (.int x1), none, none, none, none] rfl ?_
  intro X hXl hXw hE hR
  subst hXl
  subst hXw
  have hE : wt_Ok X prog_13_method_78_code 6 "WornTypeModel" 6 0 := hE
  unfold wp_md_most at h
  refine wt_aload_n hE wp_md_most_d0 rfl ?_
  refine wt_iconst hE (0 : Int32) wp_md_most_d1 wt_ci_0 ?_
  refine wt_puti hE wt_lf_md_151 (hD 108 (by decide) (by decide)) wt_L108 rfl (fun q hq => by cases hq; rfl) wp_md_most_d2 ?_
  refine wt_aload_n hE wp_md_most_d5 rfl ?_
  refine wt_iload_n hE wp_md_most_d6 rfl ?_
  refine wt_iconst hE (0 : Int32) wp_md_most_d7 wt_ci_0 ?_
  refine wt_iconst hE (2 : Int32) wp_md_most_d8 wt_ci_2 ?_
  obtain ⟨q1, hq1, h⟩ := wt_bi h
  refine wt_callSi hE [.int x1, .int (0 : Int32), .int (2 : Int32)] wt_lm_md_185 wt_ya_md_in (wp_md_in_ok hq1) (by omega) rfl rfl (Nat.le_of_ble_eq_true rfl) (Nat.zero_le _) wp_md_most_d9 (fun hbq1 => ?_)
  refine wt_if_ne hE 19 wp_md_most_d12 rfl (fun c2 => ?_) (fun c2 => ?_)
  · have h := wt_in c2 h
    refine wt_iconst hE (0 : Int32) wp_md_most_d19 wt_ci_0 ?_
    exact wp_md_most_B20_ok hE hR hD h
  · have h := wt_ip c2 h
    refine wt_iconst hE (1 : Int32) wp_md_most_d15 wt_ci_1 ?_
    refine wt_goto hE 20 wp_md_most_d16 rfl ?_
    exact wp_md_most_B20_ok hE hR hD h
def wb18m8_prog_13_method_47_code_r2 : List (List Nat) := [28, 46, 172] :: []
def wb18m8_prog_13_method_47_code_r1 : List (List Nat) := [184, 1, 24, 154, 0, 7, 4, 167, 0, 4, 3, 5, 182, 0, 230, 153, 0, 5, 3, 172, 42, 27, 182, 1, 54, 42, 180, 0, 115] :: wb18m8_prog_13_method_47_code_r2
def wb18m8_prog_13_method_47_code_r0 : List (List Nat) := [42, 3, 181, 0, 151, 42, 42, 27, 182, 1, 51, 154, 0, 7, 4, 167, 0, 4, 3, 4, 182, 0, 230, 154, 0, 23, 42, 28] :: wb18m8_prog_13_method_47_code_r1
set_option maxRecDepth 100000 in
theorem wb18m8_prog_13_method_47_code_c0 : wt_cs prog_13_method_47_code 0 wb18m8_prog_13_method_47_code_r0 := wt_cs_of (by decide +kernel)
theorem wb18m8_prog_13_method_47_code_c1 : wt_cs prog_13_method_47_code 28 wb18m8_prog_13_method_47_code_r1 := wt_cs_tl (m := 28) wb18m8_prog_13_method_47_code_c0 rfl rfl
theorem wb18m8_prog_13_method_47_code_c2 : wt_cs prog_13_method_47_code 57 wb18m8_prog_13_method_47_code_r2 := wt_cs_tl (m := 29) wb18m8_prog_13_method_47_code_c1 rfl rfl
theorem wp_md_needs_d0 : decode prog_13_method_47_code 0 = .ok (.aload_n 0, 1) := wt_op42 wb18m8_prog_13_method_47_code_c0 0 rfl rfl
theorem wp_md_needs_d1 : decode prog_13_method_47_code 1 = .ok (.iconst 0, 1) := wt_op3 wb18m8_prog_13_method_47_code_c0 1 rfl rfl
theorem wp_md_needs_d2 : decode prog_13_method_47_code 2 = .ok (.putfield 151, 3) := wt_op181 wb18m8_prog_13_method_47_code_c0 2 rfl rfl rfl
theorem wp_md_needs_d5 : decode prog_13_method_47_code 5 = .ok (.aload_n 0, 1) := wt_op42 wb18m8_prog_13_method_47_code_c0 5 rfl rfl
theorem wp_md_needs_d6 : decode prog_13_method_47_code 6 = .ok (.aload_n 0, 1) := wt_op42 wb18m8_prog_13_method_47_code_c0 6 rfl rfl
theorem wp_md_needs_d7 : decode prog_13_method_47_code 7 = .ok (.iload_n 1, 1) := wt_op27 wb18m8_prog_13_method_47_code_c0 7 rfl rfl
theorem wp_md_needs_d8 : decode prog_13_method_47_code 8 = .ok (.invokevirtual 307, 3) := wt_op182 wb18m8_prog_13_method_47_code_c0 8 rfl rfl rfl
theorem wp_md_needs_d11 : decode prog_13_method_47_code 11 = .ok (.ifCond .ne 7, 3) := wt_op154 wb18m8_prog_13_method_47_code_c0 11 rfl rfl rfl
theorem wp_md_needs_d14 : decode prog_13_method_47_code 14 = .ok (.iconst 1, 1) := wt_op4 wb18m8_prog_13_method_47_code_c0 14 rfl rfl
theorem wp_md_needs_d15 : decode prog_13_method_47_code 15 = .ok (.goto 4, 3) := wt_op167 wb18m8_prog_13_method_47_code_c0 15 rfl rfl rfl
theorem wp_md_needs_d18 : decode prog_13_method_47_code 18 = .ok (.iconst 0, 1) := wt_op3 wb18m8_prog_13_method_47_code_c0 18 rfl rfl
theorem wp_md_needs_d19 : decode prog_13_method_47_code 19 = .ok (.iconst 1, 1) := wt_op4 wb18m8_prog_13_method_47_code_c0 19 rfl rfl
theorem wp_md_needs_d20 : decode prog_13_method_47_code 20 = .ok (.invokevirtual 230, 3) := wt_op182 wb18m8_prog_13_method_47_code_c0 20 rfl rfl rfl
theorem wp_md_needs_d23 : decode prog_13_method_47_code 23 = .ok (.ifCond .ne 23, 3) := wt_op154 wb18m8_prog_13_method_47_code_c0 23 rfl rfl rfl
theorem wp_md_needs_d26 : decode prog_13_method_47_code 26 = .ok (.aload_n 0, 1) := wt_op42 wb18m8_prog_13_method_47_code_c0 26 rfl rfl
theorem wp_md_needs_d27 : decode prog_13_method_47_code 27 = .ok (.iload_n 2, 1) := wt_op28 wb18m8_prog_13_method_47_code_c0 27 rfl rfl
theorem wp_md_needs_d28 : decode prog_13_method_47_code 28 = .ok (.invokestatic 280, 3) := wt_op184 wb18m8_prog_13_method_47_code_c1 0 rfl rfl rfl
theorem wp_md_needs_d31 : decode prog_13_method_47_code 31 = .ok (.ifCond .ne 7, 3) := wt_op154 wb18m8_prog_13_method_47_code_c1 3 rfl rfl rfl
theorem wp_md_needs_d34 : decode prog_13_method_47_code 34 = .ok (.iconst 1, 1) := wt_op4 wb18m8_prog_13_method_47_code_c1 6 rfl rfl
theorem wp_md_needs_d35 : decode prog_13_method_47_code 35 = .ok (.goto 4, 3) := wt_op167 wb18m8_prog_13_method_47_code_c1 7 rfl rfl rfl
theorem wp_md_needs_d38 : decode prog_13_method_47_code 38 = .ok (.iconst 0, 1) := wt_op3 wb18m8_prog_13_method_47_code_c1 10 rfl rfl
theorem wp_md_needs_d39 : decode prog_13_method_47_code 39 = .ok (.iconst 2, 1) := wt_op5 wb18m8_prog_13_method_47_code_c1 11 rfl rfl
theorem wp_md_needs_d40 : decode prog_13_method_47_code 40 = .ok (.invokevirtual 230, 3) := wt_op182 wb18m8_prog_13_method_47_code_c1 12 rfl rfl rfl
theorem wp_md_needs_d43 : decode prog_13_method_47_code 43 = .ok (.ifCond .eq 5, 3) := wt_op153 wb18m8_prog_13_method_47_code_c1 15 rfl rfl rfl
theorem wp_md_needs_d46 : decode prog_13_method_47_code 46 = .ok (.iconst 0, 1) := wt_op3 wb18m8_prog_13_method_47_code_c1 18 rfl rfl
theorem wp_md_needs_d47 : decode prog_13_method_47_code 47 = .ok (.ireturn, 1) := wt_op172 wb18m8_prog_13_method_47_code_c1 19 rfl rfl
theorem wp_md_needs_d48 : decode prog_13_method_47_code 48 = .ok (.aload_n 0, 1) := wt_op42 wb18m8_prog_13_method_47_code_c1 20 rfl rfl
theorem wp_md_needs_d49 : decode prog_13_method_47_code 49 = .ok (.iload_n 1, 1) := wt_op27 wb18m8_prog_13_method_47_code_c1 21 rfl rfl
theorem wp_md_needs_d50 : decode prog_13_method_47_code 50 = .ok (.invokevirtual 310, 3) := wt_op182 wb18m8_prog_13_method_47_code_c1 22 rfl rfl rfl
theorem wp_md_needs_d53 : decode prog_13_method_47_code 53 = .ok (.aload_n 0, 1) := wt_op42 wb18m8_prog_13_method_47_code_c1 25 rfl rfl
theorem wp_md_needs_d54 : decode prog_13_method_47_code 54 = .ok (.getfield 115, 3) := wt_op180 wb18m8_prog_13_method_47_code_c1 26 rfl rfl rfl
theorem wp_md_needs_d57 : decode prog_13_method_47_code 57 = .ok (.iload_n 2, 1) := wt_op28 wb18m8_prog_13_method_47_code_c2 0 rfl rfl
theorem wp_md_needs_d58 : decode prog_13_method_47_code 58 = .ok (.iaload, 1) := wt_op46 wb18m8_prog_13_method_47_code_c2 1 rfl rfl
theorem wp_md_needs_d59 : decode prog_13_method_47_code 59 = .ok (.ireturn, 1) := wt_op172 wb18m8_prog_13_method_47_code_c2 2 rfl rfl
noncomputable def wp_md_needs_B39 (n : Nat) (x1 : Int32) (x2 : Int32) (y1 : Int32) (σ : wt_St) : Option (Int32 × wt_St) :=
  (wp_md_bad n y1 (2 : Int32) σ).bind fun q7 =>
  if q7.1 = 0 then
    (wp_md_needsText n x1 q7.2).bind fun q9 =>
    if x2 < 0 ∨ 26 ≤ Int32.toNatClampNeg x2 then none else
    some ((wt_ga q9 287 (Int32.toNatClampNeg x2)), q9)
  else
    some ((0 : Int32), q7.2)
set_option maxRecDepth 100000 in
set_option maxHeartbeats 4000000 in
theorem wp_md_needs_B39_ok  {x1 : Int32} {x2 : Int32} {X : wt_X} {n : Nat} {res : Int32 × wt_St} (hE : wt_Ok X prog_13_method_47_code 3 "WornTypeModel" 2 0) (hR : wt_Rt X (some .int) (some res.1) res.2) (hD : ∀ i, 108 ≤ i → i < 321 → wt_dom (wt_xw X) i)  {σ : wt_St} {y1 : Int32} (h : wp_md_needs_B39 n x1 x2 y1 σ = some res) : wt_V X 0 σ 39 [some (.ref (wt_ad (wt_xw X) 108)), some (.int x1), some (.int x2)] [.int y1, .ref (wt_ad (wt_xw X) 108)] := by
  unfold wp_md_needs_B39 at h
  refine wt_iconst hE (2 : Int32) wp_md_needs_d39 wt_ci_2 ?_
  obtain ⟨q7, hq7, h⟩ := wt_bi h
  refine wt_callVi hE [.int y1, .int (2 : Int32)] wt_lm_md_230 wt_ya_md_bad (wp_md_bad_ok hD hq7) (by omega) (hD 108 (by decide) (by decide)) wt_L108 rfl rfl rfl (Nat.le_of_ble_eq_true rfl) (Nat.zero_le _) wp_md_needs_d40 (fun hbq7 => ?_)
  refine wt_if_eq hE 48 wp_md_needs_d43 rfl (fun c8 => ?_) (fun c8 => ?_)
  · have h := wt_ip c8 h
    refine wt_aload_n hE wp_md_needs_d48 rfl ?_
    refine wt_iload_n hE wp_md_needs_d49 rfl ?_
    obtain ⟨q9, hq9, h⟩ := wt_bi h
    refine wt_callVv hE [.int x1] wt_lm_md_310 wt_ya_md_needsText (wp_md_needsText_ok hD hq9) (by omega) (hD 108 (by decide) (by decide)) wt_L108 rfl rfl rfl (Nat.le_of_ble_eq_true rfl) (Nat.zero_le _) wp_md_needs_d50 ?_
    refine wt_aload_n hE wp_md_needs_d53 rfl ?_
    refine wt_getr hE (r := 287) wt_lf_md_115 (hD 108 (by decide) (by decide)) wt_L108 rfl wp_md_needs_d54 ?_
    refine wt_iload_n hE wp_md_needs_d57 rfl ?_
    obtain ⟨g10, h⟩ := wt_gd h
    refine wt_iald hE (hD 287 (by decide) (by decide)) wt_L287 g10 wp_md_needs_d58 ?_
    cases h
    exact wt_iret hE hR wp_md_needs_d59
  · have h := wt_in c8 h
    refine wt_iconst hE (0 : Int32) wp_md_needs_d46 wt_ci_0 ?_
    cases h
    exact wt_iret hE hR wp_md_needs_d47
noncomputable def wp_md_needs_B19 (n : Nat) (x1 : Int32) (x2 : Int32) (y1 : Int32) (σ : wt_St) : Option (Int32 × wt_St) :=
  (wp_md_bad n y1 (1 : Int32) σ).bind fun q3 =>
  if q3.1 = 0 then
    (wp_md_isLetter n x2 q3.2).bind fun q5 =>
    if q5.1 = 0 then
      wp_md_needs_B39 n x1 x2 (1 : Int32) q5.2
    else
      wp_md_needs_B39 n x1 x2 (0 : Int32) q5.2
  else
    some ((0 : Int32), q3.2)
set_option maxRecDepth 100000 in
set_option maxHeartbeats 4000000 in
theorem wp_md_needs_B19_ok  {x1 : Int32} {x2 : Int32} {X : wt_X} {n : Nat} {res : Int32 × wt_St} (hE : wt_Ok X prog_13_method_47_code 3 "WornTypeModel" 2 0) (hR : wt_Rt X (some .int) (some res.1) res.2) (hD : ∀ i, 108 ≤ i → i < 321 → wt_dom (wt_xw X) i)  {σ : wt_St} {y1 : Int32} (h : wp_md_needs_B19 n x1 x2 y1 σ = some res) : wt_V X 0 σ 19 [some (.ref (wt_ad (wt_xw X) 108)), some (.int x1), some (.int x2)] [.int y1, .ref (wt_ad (wt_xw X) 108)] := by
  unfold wp_md_needs_B19 at h
  refine wt_iconst hE (1 : Int32) wp_md_needs_d19 wt_ci_1 ?_
  obtain ⟨q3, hq3, h⟩ := wt_bi h
  refine wt_callVi hE [.int y1, .int (1 : Int32)] wt_lm_md_230 wt_ya_md_bad (wp_md_bad_ok hD hq3) (by omega) (hD 108 (by decide) (by decide)) wt_L108 rfl rfl rfl (Nat.le_of_ble_eq_true rfl) (Nat.zero_le _) wp_md_needs_d20 (fun hbq3 => ?_)
  refine wt_if_ne hE 46 wp_md_needs_d23 rfl (fun c4 => ?_) (fun c4 => ?_)
  · have h := wt_in c4 h
    refine wt_iconst hE (0 : Int32) wp_md_needs_d46 wt_ci_0 ?_
    cases h
    exact wt_iret hE hR wp_md_needs_d47
  · have h := wt_ip c4 h
    refine wt_aload_n hE wp_md_needs_d26 rfl ?_
    refine wt_iload_n hE wp_md_needs_d27 rfl ?_
    obtain ⟨q5, hq5, h⟩ := wt_bi h
    refine wt_callSi hE [.int x2] wt_lm_md_280 wt_ya_md_isLetter (wp_md_isLetter_ok hq5) (by omega) rfl rfl (Nat.le_of_ble_eq_true rfl) (Nat.zero_le _) wp_md_needs_d28 (fun hbq5 => ?_)
    refine wt_if_ne hE 38 wp_md_needs_d31 rfl (fun c6 => ?_) (fun c6 => ?_)
    · have h := wt_in c6 h
      refine wt_iconst hE (0 : Int32) wp_md_needs_d38 wt_ci_0 ?_
      exact wp_md_needs_B39_ok hE hR hD h
    · have h := wt_ip c6 h
      refine wt_iconst hE (1 : Int32) wp_md_needs_d34 wt_ci_1 ?_
      refine wt_goto hE 39 wp_md_needs_d35 rfl ?_
      exact wp_md_needs_B39_ok hE hR hD h
noncomputable def wp_md_needs (n : Nat) (x1 : Int32) (x2 : Int32) (σ : wt_St) : Option (Int32 × wt_St) :=
  (wp_md_isText n x1 (wt_sf σ 108 0 (0 : Int32))).bind fun q1 =>
  if q1.1 = 0 then
    wp_md_needs_B19 n x1 x2 (1 : Int32) q1.2
  else
    wp_md_needs_B19 n x1 x2 (0 : Int32) q1.2
set_option maxRecDepth 100000 in
set_option maxHeartbeats 4000000 in
theorem wp_md_needs_ok {l : Launch} {w : wt_E} {n : Nat} {x1 : Int32} {x2 : Int32} (hD : ∀ i, 108 ≤ i → i < 321 → wt_dom w i) {σ : wt_St} {q : Int32 × wt_St} (h : wp_md_needs n x1 x2 σ = some q) : wt_Ctr l w wt_y_md_needs prog_13_method_47_code 3 (some .int) 2 [.ref (wt_ad w 108), .int x1, .int x2] σ (some q.1) q.2 := by
  refine wt_ctr wt_pl_md_needs rfl (Nat.le_of_ble_eq_true rfl) [some (.ref (wt_ad w 108)), some (.int x1), some (.int x2)] rfl ?_
  intro X hXl hXw hE hR
  subst hXl
  subst hXw
  have hE : wt_Ok X prog_13_method_47_code 3 "WornTypeModel" 2 0 := hE
  unfold wp_md_needs at h
  refine wt_aload_n hE wp_md_needs_d0 rfl ?_
  refine wt_iconst hE (0 : Int32) wp_md_needs_d1 wt_ci_0 ?_
  refine wt_puti hE wt_lf_md_151 (hD 108 (by decide) (by decide)) wt_L108 rfl (fun q hq => by cases hq; rfl) wp_md_needs_d2 ?_
  refine wt_aload_n hE wp_md_needs_d5 rfl ?_
  refine wt_aload_n hE wp_md_needs_d6 rfl ?_
  refine wt_iload_n hE wp_md_needs_d7 rfl ?_
  obtain ⟨q1, hq1, h⟩ := wt_bi h
  refine wt_callVi hE [.int x1] wt_lm_md_307 wt_ya_md_isText (wp_md_isText_ok hD hq1) (by omega) (hD 108 (by decide) (by decide)) wt_L108 rfl rfl rfl (Nat.le_of_ble_eq_true rfl) (Nat.zero_le _) wp_md_needs_d8 (fun hbq1 => ?_)
  refine wt_if_ne hE 18 wp_md_needs_d11 rfl (fun c2 => ?_) (fun c2 => ?_)
  · have h := wt_in c2 h
    refine wt_iconst hE (0 : Int32) wp_md_needs_d18 wt_ci_0 ?_
    exact wp_md_needs_B19_ok hE hR hD h
  · have h := wt_ip c2 h
    refine wt_iconst hE (1 : Int32) wp_md_needs_d14 wt_ci_1 ?_
    refine wt_goto hE 19 wp_md_needs_d15 rfl ?_
    exact wp_md_needs_B19_ok hE hR hD h
def wb18m8_prog_13_method_90_code_r0 : List (List Nat) := [3, 60, 3, 61, 28, 16, 16, 162, 0, 17, 27, 26, 28, 122, 4, 126, 96, 60, 132, 2, 1, 167, 255, 239, 27, 172] :: []
set_option maxRecDepth 100000 in
theorem wb18m8_prog_13_method_90_code_c0 : wt_cs prog_13_method_90_code 0 wb18m8_prog_13_method_90_code_r0 := wt_cs_of (by decide +kernel)
theorem wp_md_ones_d0 : decode prog_13_method_90_code 0 = .ok (.iconst 0, 1) := wt_op3 wb18m8_prog_13_method_90_code_c0 0 rfl rfl
theorem wp_md_ones_d1 : decode prog_13_method_90_code 1 = .ok (.istore_n 1, 1) := wt_op60 wb18m8_prog_13_method_90_code_c0 1 rfl rfl
theorem wp_md_ones_d2 : decode prog_13_method_90_code 2 = .ok (.iconst 0, 1) := wt_op3 wb18m8_prog_13_method_90_code_c0 2 rfl rfl
theorem wp_md_ones_d3 : decode prog_13_method_90_code 3 = .ok (.istore_n 2, 1) := wt_op61 wb18m8_prog_13_method_90_code_c0 3 rfl rfl
theorem wp_md_ones_d4 : decode prog_13_method_90_code 4 = .ok (.iload_n 2, 1) := wt_op28 wb18m8_prog_13_method_90_code_c0 4 rfl rfl
theorem wp_md_ones_d5 : decode prog_13_method_90_code 5 = .ok (.bipush 16, 2) := wt_op16 wb18m8_prog_13_method_90_code_c0 5 rfl rfl rfl
theorem wp_md_ones_d7 : decode prog_13_method_90_code 7 = .ok (.if_icmp .ge 17, 3) := wt_op162 wb18m8_prog_13_method_90_code_c0 7 rfl rfl rfl
theorem wp_md_ones_d10 : decode prog_13_method_90_code 10 = .ok (.iload_n 1, 1) := wt_op27 wb18m8_prog_13_method_90_code_c0 10 rfl rfl
theorem wp_md_ones_d11 : decode prog_13_method_90_code 11 = .ok (.iload_n 0, 1) := wt_op26 wb18m8_prog_13_method_90_code_c0 11 rfl rfl
theorem wp_md_ones_d12 : decode prog_13_method_90_code 12 = .ok (.iload_n 2, 1) := wt_op28 wb18m8_prog_13_method_90_code_c0 12 rfl rfl
theorem wp_md_ones_d13 : decode prog_13_method_90_code 13 = .ok (.ishr, 1) := wt_op122 wb18m8_prog_13_method_90_code_c0 13 rfl rfl
theorem wp_md_ones_d14 : decode prog_13_method_90_code 14 = .ok (.iconst 1, 1) := wt_op4 wb18m8_prog_13_method_90_code_c0 14 rfl rfl
theorem wp_md_ones_d15 : decode prog_13_method_90_code 15 = .ok (.iand, 1) := wt_op126 wb18m8_prog_13_method_90_code_c0 15 rfl rfl
theorem wp_md_ones_d16 : decode prog_13_method_90_code 16 = .ok (.iadd, 1) := wt_op96 wb18m8_prog_13_method_90_code_c0 16 rfl rfl
theorem wp_md_ones_d17 : decode prog_13_method_90_code 17 = .ok (.istore_n 1, 1) := wt_op60 wb18m8_prog_13_method_90_code_c0 17 rfl rfl
theorem wp_md_ones_d18 : decode prog_13_method_90_code 18 = .ok (.iinc 2 1, 3) := wt_op132 wb18m8_prog_13_method_90_code_c0 18 rfl rfl rfl
theorem wp_md_ones_d21 : decode prog_13_method_90_code 21 = .ok (.goto (-17), 3) := wt_op167 wb18m8_prog_13_method_90_code_c0 21 rfl rfl rfl
theorem wp_md_ones_d24 : decode prog_13_method_90_code 24 = .ok (.iload_n 1, 1) := wt_op27 wb18m8_prog_13_method_90_code_c0 24 rfl rfl
theorem wp_md_ones_d25 : decode prog_13_method_90_code 25 = .ok (.ireturn, 1) := wt_op172 wb18m8_prog_13_method_90_code_c0 25 rfl rfl
noncomputable def wp_md_ones_B4 (n : Nat) (x0 : Int32) (K4 : Int32 × Int32 × wt_St → Option (Int32 × wt_St)) (s : Int32 × Int32 × wt_St) : Option (Int32 × wt_St) :=
  if (16 : Int32) ≤ s.2.1 then
    some (s.1, s.2.2)
  else
    K4 ((s.1 + ((x0 >>> (s.2.1 &&& 31)) &&& (1 : Int32))), (s.2.1 + (1 : Int32)), s.2.2)
set_option maxRecDepth 100000 in
set_option maxHeartbeats 4000000 in
theorem wp_md_ones_B4_ok  {x0 : Int32} {X : wt_X} {n : Nat} {res : Int32 × wt_St} (hE : wt_Ok X prog_13_method_90_code 3 "WornTypeModel" 0 0) (hR : wt_Rt X (some .int) (some res.1) res.2)  {K4 : Int32 × Int32 × wt_St → Option (Int32 × wt_St)} (hK4 : ∀ s : Int32 × Int32 × wt_St, K4 s = some res → wt_V X 0 s.2.2 4 [some (.int x0), some (.int s.1), some (.int s.2.1)] []) {s : Int32 × Int32 × wt_St} (h : wp_md_ones_B4 n x0 K4 s = some res) : wt_V X 0 s.2.2 4 [some (.int x0), some (.int s.1), some (.int s.2.1)] [] := by
  unfold wp_md_ones_B4 at h
  refine wt_iload_n hE wp_md_ones_d4 rfl ?_
  refine wt_bipush hE (16 : Int32) wp_md_ones_d5 wt_cb_16 ?_
  refine wt_icmp_ge hE 24 wp_md_ones_d7 rfl (fun c1 => ?_) (fun c1 => ?_)
  · have h := wt_ip c1 h
    refine wt_iload_n hE wp_md_ones_d24 rfl ?_
    cases h
    exact wt_iret hE hR wp_md_ones_d25
  · have h := wt_in c1 h
    refine wt_iload_n hE wp_md_ones_d10 rfl ?_
    refine wt_iload_n hE wp_md_ones_d11 rfl ?_
    refine wt_iload_n hE wp_md_ones_d12 rfl ?_
    refine wt_ishr hE wp_md_ones_d13 ?_
    refine wt_iconst hE (1 : Int32) wp_md_ones_d14 wt_ci_1 ?_
    refine wt_iand hE wp_md_ones_d15 ?_
    refine wt_iadd hE wp_md_ones_d16 ?_
    refine wt_istore_n hE [some (.int x0), some (.int (s.1 + ((x0 >>> (s.2.1 &&& 31)) &&& (1 : Int32)))), some (.int s.2.1)] wp_md_ones_d17 (by decide) rfl ?_
    refine wt_iinc hE (s.2.1 + (1 : Int32)) [some (.int x0), some (.int (s.1 + ((x0 >>> (s.2.1 &&& 31)) &&& (1 : Int32)))), some (.int (s.2.1 + (1 : Int32)))] wp_md_ones_d18 (by decide) rfl rfl rfl ?_
    refine wt_goto hE 4 wp_md_ones_d21 rfl ?_
    exact hK4 ((s.1 + ((x0 >>> (s.2.1 &&& 31)) &&& (1 : Int32))), (s.2.1 + (1 : Int32)), s.2.2) h
noncomputable def wp_md_ones (n : Nat) (x0 : Int32) (σ : wt_St) : Option (Int32 × wt_St) :=
  wt_it (wp_md_ones_B4 n x0) n ((0 : Int32), (0 : Int32), σ)
set_option maxRecDepth 100000 in
set_option maxHeartbeats 4000000 in
theorem wp_md_ones_ok {l : Launch} {w : wt_E} {n : Nat} {x0 : Int32} {σ : wt_St} {q : Int32 × wt_St} (h : wp_md_ones n x0 σ = some q) : wt_Ctr l w wt_y_md_ones prog_13_method_90_code 3 (some .int) 0 [.int x0] σ (some q.1) q.2 := by
  refine wt_ctr wt_pl_md_ones rfl (Nat.le_of_ble_eq_true rfl) [some (.int x0), none, none] rfl ?_
  intro X hXl hXw hE hR
  subst hXl
  subst hXw
  have hE : wt_Ok X prog_13_method_90_code 3 "WornTypeModel" 0 0 := hE
  unfold wp_md_ones at h
  refine wt_iconst hE (0 : Int32) wp_md_ones_d0 wt_ci_0 ?_
  refine wt_istore_n hE [some (.int x0), some (.int (0 : Int32)), none] wp_md_ones_d1 (by decide) rfl ?_
  refine wt_iconst hE (0 : Int32) wp_md_ones_d2 wt_ci_0 ?_
  refine wt_istore_n hE [some (.int x0), some (.int (0 : Int32)), some (.int (0 : Int32))] wp_md_ones_d3 (by decide) rfl ?_
  exact wt_it_ind (fun z => wt_V X 0 z.2.2 4 [some (.int x0), some (.int z.1), some (.int z.2.1)] []) (fun K hK z h => wp_md_ones_B4_ok hE hR hK h) n ((0 : Int32), (0 : Int32), σ) h
def wb18m8_prog_13_method_61_code_r2 : List (List Nat) := [167, 255, 204, 2, 172] :: []
def wb18m8_prog_13_method_61_code_r1 : List (List Nat) := [108, 28, 159, 0, 6, 167, 0, 22, 21, 4, 29, 160, 0, 13, 42, 180, 0, 106, 27, 50, 21, 5, 46, 172, 132, 4, 1, 132, 5, 1] :: wb18m8_prog_13_method_61_code_r2
def wb18m8_prog_13_method_61_code_r0 : List (List Nat) := [3, 54, 4, 3, 54, 5, 21, 5, 42, 180, 0, 103, 27, 46, 162, 0, 47, 42, 180, 0, 106, 27, 50, 21, 5, 46, 16, 13] :: wb18m8_prog_13_method_61_code_r1
set_option maxRecDepth 100000 in
theorem wb18m8_prog_13_method_61_code_c0 : wt_cs prog_13_method_61_code 0 wb18m8_prog_13_method_61_code_r0 := wt_cs_of (by decide +kernel)
theorem wb18m8_prog_13_method_61_code_c1 : wt_cs prog_13_method_61_code 28 wb18m8_prog_13_method_61_code_r1 := wt_cs_tl (m := 28) wb18m8_prog_13_method_61_code_c0 rfl rfl
theorem wb18m8_prog_13_method_61_code_c2 : wt_cs prog_13_method_61_code 58 wb18m8_prog_13_method_61_code_r2 := wt_cs_tl (m := 30) wb18m8_prog_13_method_61_code_c1 rfl rfl
theorem wp_md_pieceOn_d0 : decode prog_13_method_61_code 0 = .ok (.iconst 0, 1) := wt_op3 wb18m8_prog_13_method_61_code_c0 0 rfl rfl
theorem wp_md_pieceOn_d1 : decode prog_13_method_61_code 1 = .ok (.istore 4, 2) := wt_op54 wb18m8_prog_13_method_61_code_c0 1 rfl rfl
theorem wp_md_pieceOn_d3 : decode prog_13_method_61_code 3 = .ok (.iconst 0, 1) := wt_op3 wb18m8_prog_13_method_61_code_c0 3 rfl rfl
theorem wp_md_pieceOn_d4 : decode prog_13_method_61_code 4 = .ok (.istore 5, 2) := wt_op54 wb18m8_prog_13_method_61_code_c0 4 rfl rfl
theorem wp_md_pieceOn_d6 : decode prog_13_method_61_code 6 = .ok (.iload 5, 2) := wt_op21 wb18m8_prog_13_method_61_code_c0 6 rfl rfl
theorem wp_md_pieceOn_d8 : decode prog_13_method_61_code 8 = .ok (.aload_n 0, 1) := wt_op42 wb18m8_prog_13_method_61_code_c0 8 rfl rfl
theorem wp_md_pieceOn_d9 : decode prog_13_method_61_code 9 = .ok (.getfield 103, 3) := wt_op180 wb18m8_prog_13_method_61_code_c0 9 rfl rfl rfl
theorem wp_md_pieceOn_d12 : decode prog_13_method_61_code 12 = .ok (.iload_n 1, 1) := wt_op27 wb18m8_prog_13_method_61_code_c0 12 rfl rfl
theorem wp_md_pieceOn_d13 : decode prog_13_method_61_code 13 = .ok (.iaload, 1) := wt_op46 wb18m8_prog_13_method_61_code_c0 13 rfl rfl
theorem wp_md_pieceOn_d14 : decode prog_13_method_61_code 14 = .ok (.if_icmp .ge 47, 3) := wt_op162 wb18m8_prog_13_method_61_code_c0 14 rfl rfl rfl
theorem wp_md_pieceOn_d17 : decode prog_13_method_61_code 17 = .ok (.aload_n 0, 1) := wt_op42 wb18m8_prog_13_method_61_code_c0 17 rfl rfl
theorem wp_md_pieceOn_d18 : decode prog_13_method_61_code 18 = .ok (.getfield 106, 3) := wt_op180 wb18m8_prog_13_method_61_code_c0 18 rfl rfl rfl
theorem wp_md_pieceOn_d21 : decode prog_13_method_61_code 21 = .ok (.iload_n 1, 1) := wt_op27 wb18m8_prog_13_method_61_code_c0 21 rfl rfl
theorem wp_md_pieceOn_d22 : decode prog_13_method_61_code 22 = .ok (.aaload, 1) := wt_op50 wb18m8_prog_13_method_61_code_c0 22 rfl rfl
theorem wp_md_pieceOn_d23 : decode prog_13_method_61_code 23 = .ok (.iload 5, 2) := wt_op21 wb18m8_prog_13_method_61_code_c0 23 rfl rfl
theorem wp_md_pieceOn_d25 : decode prog_13_method_61_code 25 = .ok (.iaload, 1) := wt_op46 wb18m8_prog_13_method_61_code_c0 25 rfl rfl
theorem wp_md_pieceOn_d26 : decode prog_13_method_61_code 26 = .ok (.bipush 13, 2) := wt_op16 wb18m8_prog_13_method_61_code_c0 26 rfl rfl rfl
theorem wp_md_pieceOn_d28 : decode prog_13_method_61_code 28 = .ok (.idiv, 1) := wt_op108 wb18m8_prog_13_method_61_code_c1 0 rfl rfl
theorem wp_md_pieceOn_d29 : decode prog_13_method_61_code 29 = .ok (.iload_n 2, 1) := wt_op28 wb18m8_prog_13_method_61_code_c1 1 rfl rfl
theorem wp_md_pieceOn_d30 : decode prog_13_method_61_code 30 = .ok (.if_icmp .eq 6, 3) := wt_op159 wb18m8_prog_13_method_61_code_c1 2 rfl rfl rfl
theorem wp_md_pieceOn_d33 : decode prog_13_method_61_code 33 = .ok (.goto 22, 3) := wt_op167 wb18m8_prog_13_method_61_code_c1 5 rfl rfl rfl
theorem wp_md_pieceOn_d36 : decode prog_13_method_61_code 36 = .ok (.iload 4, 2) := wt_op21 wb18m8_prog_13_method_61_code_c1 8 rfl rfl
theorem wp_md_pieceOn_d38 : decode prog_13_method_61_code 38 = .ok (.iload_n 3, 1) := wt_op29 wb18m8_prog_13_method_61_code_c1 10 rfl rfl
theorem wp_md_pieceOn_d39 : decode prog_13_method_61_code 39 = .ok (.if_icmp .ne 13, 3) := wt_op160 wb18m8_prog_13_method_61_code_c1 11 rfl rfl rfl
theorem wp_md_pieceOn_d42 : decode prog_13_method_61_code 42 = .ok (.aload_n 0, 1) := wt_op42 wb18m8_prog_13_method_61_code_c1 14 rfl rfl
theorem wp_md_pieceOn_d43 : decode prog_13_method_61_code 43 = .ok (.getfield 106, 3) := wt_op180 wb18m8_prog_13_method_61_code_c1 15 rfl rfl rfl
theorem wp_md_pieceOn_d46 : decode prog_13_method_61_code 46 = .ok (.iload_n 1, 1) := wt_op27 wb18m8_prog_13_method_61_code_c1 18 rfl rfl
theorem wp_md_pieceOn_d47 : decode prog_13_method_61_code 47 = .ok (.aaload, 1) := wt_op50 wb18m8_prog_13_method_61_code_c1 19 rfl rfl
theorem wp_md_pieceOn_d48 : decode prog_13_method_61_code 48 = .ok (.iload 5, 2) := wt_op21 wb18m8_prog_13_method_61_code_c1 20 rfl rfl
theorem wp_md_pieceOn_d50 : decode prog_13_method_61_code 50 = .ok (.iaload, 1) := wt_op46 wb18m8_prog_13_method_61_code_c1 22 rfl rfl
theorem wp_md_pieceOn_d51 : decode prog_13_method_61_code 51 = .ok (.ireturn, 1) := wt_op172 wb18m8_prog_13_method_61_code_c1 23 rfl rfl
theorem wp_md_pieceOn_d52 : decode prog_13_method_61_code 52 = .ok (.iinc 4 1, 3) := wt_op132 wb18m8_prog_13_method_61_code_c1 24 rfl rfl rfl
theorem wp_md_pieceOn_d55 : decode prog_13_method_61_code 55 = .ok (.iinc 5 1, 3) := wt_op132 wb18m8_prog_13_method_61_code_c1 27 rfl rfl rfl
theorem wp_md_pieceOn_d58 : decode prog_13_method_61_code 58 = .ok (.goto (-52), 3) := wt_op167 wb18m8_prog_13_method_61_code_c2 0 rfl rfl rfl
theorem wp_md_pieceOn_d61 : decode prog_13_method_61_code 61 = .ok (.iconst (-1), 1) := wt_op2 wb18m8_prog_13_method_61_code_c2 3 rfl rfl
theorem wp_md_pieceOn_d62 : decode prog_13_method_61_code 62 = .ok (.ireturn, 1) := wt_op172 wb18m8_prog_13_method_61_code_c2 4 rfl rfl
noncomputable def wp_md_pieceOn_B55 (n : Nat) (x1 : Int32) (x2 : Int32) (x3 : Int32) (x4 : Int32) (x5 : Int32) (K6 : Int32 × Int32 × wt_St → Option (Int32 × wt_St)) (σ : wt_St) : Option (Int32 × wt_St) :=
  K6 (x4, (x5 + (1 : Int32)), σ)
set_option maxRecDepth 100000 in
set_option maxHeartbeats 4000000 in
theorem wp_md_pieceOn_B55_ok  {x1 : Int32} {x2 : Int32} {x3 : Int32} {x4 : Int32} {x5 : Int32} {X : wt_X} {n : Nat} {res : Int32 × wt_St} (hE : wt_Ok X prog_13_method_61_code 6 "WornTypeModel" 0 0) (hR : wt_Rt X (some .int) (some res.1) res.2) (hD : ∀ i, 108 ≤ i → i < 321 → wt_dom (wt_xw X) i)  {K6 : Int32 × Int32 × wt_St → Option (Int32 × wt_St)} (hK6 : ∀ s : Int32 × Int32 × wt_St, K6 s = some res → wt_V X 0 s.2.2 6 [some (.ref (wt_ad (wt_xw X) 108)), some (.int x1), some (.int x2), some (.int x3), some (.int s.1), some (.int s.2.1)] []) {σ : wt_St} (h : wp_md_pieceOn_B55 n x1 x2 x3 x4 x5 K6 σ = some res) : wt_V X 0 σ 55 [some (.ref (wt_ad (wt_xw X) 108)), some (.int x1), some (.int x2), some (.int x3), some (.int x4), some (.int x5)] [] := by
  unfold wp_md_pieceOn_B55 at h
  refine wt_iinc hE (x5 + (1 : Int32)) [some (.ref (wt_ad (wt_xw X) 108)), some (.int x1), some (.int x2), some (.int x3), some (.int x4), some (.int (x5 + (1 : Int32)))] wp_md_pieceOn_d55 (by decide) rfl rfl rfl ?_
  refine wt_goto hE 6 wp_md_pieceOn_d58 rfl ?_
  exact hK6 (x4, (x5 + (1 : Int32)), σ) h
noncomputable def wp_md_pieceOn_B6 (n : Nat) (x1 : Int32) (x2 : Int32) (x3 : Int32) (K6 : Int32 × Int32 × wt_St → Option (Int32 × wt_St)) (s : Int32 × Int32 × wt_St) : Option (Int32 × wt_St) :=
  if x1 < 0 ∨ 4 ≤ Int32.toNatClampNeg x1 then none else
  if (wt_ga s.2.2 276 (Int32.toNatClampNeg x1)) ≤ s.2.1 then
    some ((-1 : Int32), s.2.2)
  else
    if x1 < 0 ∨ 4 ≤ Int32.toNatClampNeg x1 then none else
    if s.2.1 < 0 ∨ 108 ≤ Int32.toNatClampNeg s.2.1 then none else
    if ((wt_ga s.2.2 (278 + Int32.toNatClampNeg x1) (Int32.toNatClampNeg s.2.1)) / (13 : Int32)) = x2 then
      if s.1 = x3 then
        if x1 < 0 ∨ 4 ≤ Int32.toNatClampNeg x1 then none else
        if s.2.1 < 0 ∨ 108 ≤ Int32.toNatClampNeg s.2.1 then none else
        some ((wt_ga s.2.2 (278 + Int32.toNatClampNeg x1) (Int32.toNatClampNeg s.2.1)), s.2.2)
      else
        wp_md_pieceOn_B55 n x1 x2 x3 (s.1 + (1 : Int32)) s.2.1 K6 s.2.2
    else
      wp_md_pieceOn_B55 n x1 x2 x3 s.1 s.2.1 K6 s.2.2
set_option maxRecDepth 100000 in
set_option maxHeartbeats 4000000 in
theorem wp_md_pieceOn_B6_ok  {x1 : Int32} {x2 : Int32} {x3 : Int32} {X : wt_X} {n : Nat} {res : Int32 × wt_St} (hE : wt_Ok X prog_13_method_61_code 6 "WornTypeModel" 0 0) (hR : wt_Rt X (some .int) (some res.1) res.2) (hD : ∀ i, 108 ≤ i → i < 321 → wt_dom (wt_xw X) i)  {K6 : Int32 × Int32 × wt_St → Option (Int32 × wt_St)} (hK6 : ∀ s : Int32 × Int32 × wt_St, K6 s = some res → wt_V X 0 s.2.2 6 [some (.ref (wt_ad (wt_xw X) 108)), some (.int x1), some (.int x2), some (.int x3), some (.int s.1), some (.int s.2.1)] []) {s : Int32 × Int32 × wt_St} (h : wp_md_pieceOn_B6 n x1 x2 x3 K6 s = some res) : wt_V X 0 s.2.2 6 [some (.ref (wt_ad (wt_xw X) 108)), some (.int x1), some (.int x2), some (.int x3), some (.int s.1), some (.int s.2.1)] [] := by
  unfold wp_md_pieceOn_B6 at h
  refine wt_iload hE wp_md_pieceOn_d6 rfl ?_
  refine wt_aload_n hE wp_md_pieceOn_d8 rfl ?_
  refine wt_getr hE (r := 276) wt_lf_md_103 (hD 108 (by decide) (by decide)) wt_L108 rfl wp_md_pieceOn_d9 ?_
  refine wt_iload_n hE wp_md_pieceOn_d12 rfl ?_
  obtain ⟨g1, h⟩ := wt_gd h
  refine wt_iald hE (hD 276 (by decide) (by decide)) wt_L276 g1 wp_md_pieceOn_d13 ?_
  refine wt_icmp_ge hE 61 wp_md_pieceOn_d14 rfl (fun c2 => ?_) (fun c2 => ?_)
  · have h := wt_ip c2 h
    refine wt_iconst hE (-1 : Int32) wp_md_pieceOn_d61 wt_ci_m1 ?_
    cases h
    exact wt_iret hE hR wp_md_pieceOn_d62
  · have h := wt_in c2 h
    refine wt_aload_n hE wp_md_pieceOn_d17 rfl ?_
    refine wt_getr hE (r := 277) wt_lf_md_106 (hD 108 (by decide) (by decide)) wt_L108 rfl wp_md_pieceOn_d18 ?_
    refine wt_iload_n hE wp_md_pieceOn_d21 rfl ?_
    obtain ⟨g3, h⟩ := wt_gd h
    have lg3 := wt_lt g3
    refine wt_aald1 hE (hD 277 (by decide) (by decide)) wt_L277 g3 wp_md_pieceOn_d22 ?_
    refine wt_iload hE wp_md_pieceOn_d23 rfl ?_
    obtain ⟨g4, h⟩ := wt_gd h
    refine wt_iald hE (hD _ (by omega) (by omega)) (wt_G278 _ lg3) g4 wp_md_pieceOn_d25 ?_
    refine wt_bipush hE (13 : Int32) wp_md_pieceOn_d26 wt_cb_13 ?_
    refine wt_idiv hE wp_md_pieceOn_d28 (by decide) ?_
    refine wt_iload_n hE wp_md_pieceOn_d29 rfl ?_
    refine wt_icmp_eq hE 36 wp_md_pieceOn_d30 rfl (fun c5 => ?_) (fun c5 => ?_)
    · have h := wt_ip c5 h
      refine wt_iload hE wp_md_pieceOn_d36 rfl ?_
      refine wt_iload_n hE wp_md_pieceOn_d38 rfl ?_
      refine wt_icmp_ne hE 52 wp_md_pieceOn_d39 rfl (fun c6 => ?_) (fun c6 => ?_)
      · have h := wt_in c6 h
        refine wt_iinc hE (s.1 + (1 : Int32)) [some (.ref (wt_ad (wt_xw X) 108)), some (.int x1), some (.int x2), some (.int x3), some (.int (s.1 + (1 : Int32))), some (.int s.2.1)] wp_md_pieceOn_d52 (by decide) rfl rfl rfl ?_
        exact wp_md_pieceOn_B55_ok hE hR hD hK6 h
      · have h := wt_ip c6 h
        refine wt_aload_n hE wp_md_pieceOn_d42 rfl ?_
        refine wt_getr hE (r := 277) wt_lf_md_106 (hD 108 (by decide) (by decide)) wt_L108 rfl wp_md_pieceOn_d43 ?_
        refine wt_iload_n hE wp_md_pieceOn_d46 rfl ?_
        obtain ⟨g7, h⟩ := wt_gd h
        have lg7 := wt_lt g7
        refine wt_aald1 hE (hD 277 (by decide) (by decide)) wt_L277 g7 wp_md_pieceOn_d47 ?_
        refine wt_iload hE wp_md_pieceOn_d48 rfl ?_
        obtain ⟨g8, h⟩ := wt_gd h
        refine wt_iald hE (hD _ (by omega) (by omega)) (wt_G278 _ lg7) g8 wp_md_pieceOn_d50 ?_
        cases h
        exact wt_iret hE hR wp_md_pieceOn_d51
    · have h := wt_in c5 h
      refine wt_goto hE 55 wp_md_pieceOn_d33 rfl ?_
      exact wp_md_pieceOn_B55_ok hE hR hD hK6 h
noncomputable def wp_md_pieceOn (n : Nat) (x1 : Int32) (x2 : Int32) (x3 : Int32) (σ : wt_St) : Option (Int32 × wt_St) :=
  wt_it (wp_md_pieceOn_B6 n x1 x2 x3) n ((0 : Int32), (0 : Int32), σ)
set_option maxRecDepth 100000 in
set_option maxHeartbeats 4000000 in
theorem wp_md_pieceOn_ok {l : Launch} {w : wt_E} {n : Nat} {x1 : Int32} {x2 : Int32} {x3 : Int32} (hD : ∀ i, 108 ≤ i → i < 321 → wt_dom w i) {σ : wt_St} {q : Int32 × wt_St} (h : wp_md_pieceOn n x1 x2 x3 σ = some q) : wt_Ctr l w wt_y_md_pieceOn prog_13_method_61_code 6 (some .int) 0 [.ref (wt_ad w 108), .int x1, .int x2, .int x3] σ (some q.1) q.2 := by
  refine wt_ctr wt_pl_md_pieceOn rfl (Nat.le_of_ble_eq_true rfl) [some (.ref (wt_ad w 108)), some (.int x1), some (.int x2), some (.int x3), none, none] rfl ?_
  intro X hXl hXw hE hR
  subst hXl
  subst hXw
  have hE : wt_Ok X prog_13_method_61_code 6 "WornTypeModel" 0 0 := hE
  unfold wp_md_pieceOn at h
  refine wt_iconst hE (0 : Int32) wp_md_pieceOn_d0 wt_ci_0 ?_
  refine wt_istore hE [some (.ref (wt_ad (wt_xw X) 108)), some (.int x1), some (.int x2), some (.int x3), some (.int (0 : Int32)), none] wp_md_pieceOn_d1 (Nat.le_of_ble_eq_true rfl) rfl ?_
  refine wt_iconst hE (0 : Int32) wp_md_pieceOn_d3 wt_ci_0 ?_
  refine wt_istore hE [some (.ref (wt_ad (wt_xw X) 108)), some (.int x1), some (.int x2), some (.int x3), some (.int (0 : Int32)), some (.int (0 : Int32))] wp_md_pieceOn_d4 (Nat.le_of_ble_eq_true rfl) rfl ?_
  exact wt_it_ind (fun z => wt_V X 0 z.2.2 6 [some (.ref (wt_ad (wt_xw X) 108)), some (.int x1), some (.int x2), some (.int x3), some (.int z.1), some (.int z.2.1)] []) (fun K hK z h => wp_md_pieceOn_B6_ok hE hR hD hK h) n ((0 : Int32), (0 : Int32), σ) h
def wb18m8_prog_13_method_60_code_r9 : List (List Nat) := [153, 0, 6, 21, 5, 172, 132, 5, 1, 167, 255, 169, 2, 172] :: []
def wb18m8_prog_13_method_60_code_r8 : List (List Nat) := [50, 21, 7, 46, 42, 180, 0, 121, 21, 7, 46, 160, 0, 7, 4, 167, 0, 4, 3, 54, 6, 132, 7, 1, 167, 255, 214, 21, 6] :: wb18m8_prog_13_method_60_code_r9
def wb18m8_prog_13_method_60_code_r7 : List (List Nat) := [4, 167, 0, 4, 3, 54, 6, 3, 54, 7, 21, 7, 21, 4, 162, 0, 41, 21, 6, 153, 0, 36, 42, 180, 0, 85, 21, 5] :: wb18m8_prog_13_method_60_code_r8
def wb18m8_prog_13_method_60_code_r6 : List (List Nat) := [28, 46, 46, 54, 4, 3, 54, 5, 21, 5, 42, 180, 1, 3, 162, 0, 84, 42, 180, 0, 65, 21, 5, 46, 21, 4, 160, 0, 7] :: wb18m8_prog_13_method_60_code_r7
def wb18m8_prog_13_method_60_code_r5 : List (List Nat) := [167, 0, 5, 21, 7, 79, 132, 6, 1, 167, 255, 158, 132, 4, 1, 167, 255, 132, 42, 180, 0, 65, 42, 180, 0, 91, 29, 50] :: wb18m8_prog_13_method_60_code_r6
def wb18m8_prog_13_method_60_code_r4 : List (List Nat) := [21, 8, 46, 42, 180, 0, 202, 162, 0, 24, 42, 180, 0, 38, 21, 7, 46, 2, 159, 0, 13, 42, 180, 0, 38, 21, 7, 46] :: wb18m8_prog_13_method_60_code_r5
def wb18m8_prog_13_method_60_code_r3 : List (List Nat) := [21, 7, 46, 182, 1, 76, 54, 8, 42, 180, 0, 124, 21, 7, 92, 46, 4, 96, 79, 42, 180, 0, 121, 21, 6, 42, 180, 0, 50] :: wb18m8_prog_13_method_60_code_r4
def wb18m8_prog_13_method_60_code_r2 : List (List Nat) := [42, 180, 0, 65, 21, 5, 46, 162, 0, 92, 42, 180, 0, 85, 21, 5, 50, 21, 6, 46, 54, 7, 42, 27, 21, 7, 42, 180, 0, 124] :: wb18m8_prog_13_method_60_code_r3
def wb18m8_prog_13_method_60_code_r1 : List (List Nat) := [167, 255, 238, 3, 54, 4, 21, 4, 28, 163, 0, 124, 42, 180, 0, 91, 29, 50, 21, 4, 46, 54, 5, 3, 54, 6, 21, 6] :: wb18m8_prog_13_method_60_code_r2
def wb18m8_prog_13_method_60_code_r0 : List (List Nat) := [42, 180, 0, 100, 27, 46, 62, 3, 54, 4, 21, 4, 16, 26, 162, 0, 17, 42, 180, 0, 124, 21, 4, 3, 79, 132, 4, 1] :: wb18m8_prog_13_method_60_code_r1
set_option maxRecDepth 100000 in
theorem wb18m8_prog_13_method_60_code_c0 : wt_cs prog_13_method_60_code 0 wb18m8_prog_13_method_60_code_r0 := wt_cs_of (by decide +kernel)
theorem wb18m8_prog_13_method_60_code_c1 : wt_cs prog_13_method_60_code 28 wb18m8_prog_13_method_60_code_r1 := wt_cs_tl (m := 28) wb18m8_prog_13_method_60_code_c0 rfl rfl
theorem wb18m8_prog_13_method_60_code_c2 : wt_cs prog_13_method_60_code 56 wb18m8_prog_13_method_60_code_r2 := wt_cs_tl (m := 28) wb18m8_prog_13_method_60_code_c1 rfl rfl
theorem wb18m8_prog_13_method_60_code_c3 : wt_cs prog_13_method_60_code 86 wb18m8_prog_13_method_60_code_r3 := wt_cs_tl (m := 30) wb18m8_prog_13_method_60_code_c2 rfl rfl
theorem wb18m8_prog_13_method_60_code_c4 : wt_cs prog_13_method_60_code 115 wb18m8_prog_13_method_60_code_r4 := wt_cs_tl (m := 29) wb18m8_prog_13_method_60_code_c3 rfl rfl
theorem wb18m8_prog_13_method_60_code_c5 : wt_cs prog_13_method_60_code 143 wb18m8_prog_13_method_60_code_r5 := wt_cs_tl (m := 28) wb18m8_prog_13_method_60_code_c4 rfl rfl
theorem wb18m8_prog_13_method_60_code_c6 : wt_cs prog_13_method_60_code 171 wb18m8_prog_13_method_60_code_r6 := wt_cs_tl (m := 28) wb18m8_prog_13_method_60_code_c5 rfl rfl
theorem wb18m8_prog_13_method_60_code_c7 : wt_cs prog_13_method_60_code 200 wb18m8_prog_13_method_60_code_r7 := wt_cs_tl (m := 29) wb18m8_prog_13_method_60_code_c6 rfl rfl
theorem wb18m8_prog_13_method_60_code_c8 : wt_cs prog_13_method_60_code 228 wb18m8_prog_13_method_60_code_r8 := wt_cs_tl (m := 28) wb18m8_prog_13_method_60_code_c7 rfl rfl
theorem wb18m8_prog_13_method_60_code_c9 : wt_cs prog_13_method_60_code 257 wb18m8_prog_13_method_60_code_r9 := wt_cs_tl (m := 29) wb18m8_prog_13_method_60_code_c8 rfl rfl
theorem wp_md_readOf_d0 : decode prog_13_method_60_code 0 = .ok (.aload_n 0, 1) := wt_op42 wb18m8_prog_13_method_60_code_c0 0 rfl rfl
theorem wp_md_readOf_d1 : decode prog_13_method_60_code 1 = .ok (.getfield 100, 3) := wt_op180 wb18m8_prog_13_method_60_code_c0 1 rfl rfl rfl
theorem wp_md_readOf_d4 : decode prog_13_method_60_code 4 = .ok (.iload_n 1, 1) := wt_op27 wb18m8_prog_13_method_60_code_c0 4 rfl rfl
theorem wp_md_readOf_d5 : decode prog_13_method_60_code 5 = .ok (.iaload, 1) := wt_op46 wb18m8_prog_13_method_60_code_c0 5 rfl rfl
theorem wp_md_readOf_d6 : decode prog_13_method_60_code 6 = .ok (.istore_n 3, 1) := wt_op62 wb18m8_prog_13_method_60_code_c0 6 rfl rfl
theorem wp_md_readOf_d7 : decode prog_13_method_60_code 7 = .ok (.iconst 0, 1) := wt_op3 wb18m8_prog_13_method_60_code_c0 7 rfl rfl
theorem wp_md_readOf_d8 : decode prog_13_method_60_code 8 = .ok (.istore 4, 2) := wt_op54 wb18m8_prog_13_method_60_code_c0 8 rfl rfl
theorem wp_md_readOf_d10 : decode prog_13_method_60_code 10 = .ok (.iload 4, 2) := wt_op21 wb18m8_prog_13_method_60_code_c0 10 rfl rfl
theorem wp_md_readOf_d12 : decode prog_13_method_60_code 12 = .ok (.bipush 26, 2) := wt_op16 wb18m8_prog_13_method_60_code_c0 12 rfl rfl rfl
theorem wp_md_readOf_d14 : decode prog_13_method_60_code 14 = .ok (.if_icmp .ge 17, 3) := wt_op162 wb18m8_prog_13_method_60_code_c0 14 rfl rfl rfl
theorem wp_md_readOf_d17 : decode prog_13_method_60_code 17 = .ok (.aload_n 0, 1) := wt_op42 wb18m8_prog_13_method_60_code_c0 17 rfl rfl
theorem wp_md_readOf_d18 : decode prog_13_method_60_code 18 = .ok (.getfield 124, 3) := wt_op180 wb18m8_prog_13_method_60_code_c0 18 rfl rfl rfl
theorem wp_md_readOf_d21 : decode prog_13_method_60_code 21 = .ok (.iload 4, 2) := wt_op21 wb18m8_prog_13_method_60_code_c0 21 rfl rfl
theorem wp_md_readOf_d23 : decode prog_13_method_60_code 23 = .ok (.iconst 0, 1) := wt_op3 wb18m8_prog_13_method_60_code_c0 23 rfl rfl
theorem wp_md_readOf_d24 : decode prog_13_method_60_code 24 = .ok (.iastore, 1) := wt_op79 wb18m8_prog_13_method_60_code_c0 24 rfl rfl
theorem wp_md_readOf_d25 : decode prog_13_method_60_code 25 = .ok (.iinc 4 1, 3) := wt_op132 wb18m8_prog_13_method_60_code_c0 25 rfl rfl rfl
theorem wp_md_readOf_d28 : decode prog_13_method_60_code 28 = .ok (.goto (-18), 3) := wt_op167 wb18m8_prog_13_method_60_code_c1 0 rfl rfl rfl
theorem wp_md_readOf_d31 : decode prog_13_method_60_code 31 = .ok (.iconst 0, 1) := wt_op3 wb18m8_prog_13_method_60_code_c1 3 rfl rfl
theorem wp_md_readOf_d32 : decode prog_13_method_60_code 32 = .ok (.istore 4, 2) := wt_op54 wb18m8_prog_13_method_60_code_c1 4 rfl rfl
theorem wp_md_readOf_d34 : decode prog_13_method_60_code 34 = .ok (.iload 4, 2) := wt_op21 wb18m8_prog_13_method_60_code_c1 6 rfl rfl
theorem wp_md_readOf_d36 : decode prog_13_method_60_code 36 = .ok (.iload_n 2, 1) := wt_op28 wb18m8_prog_13_method_60_code_c1 8 rfl rfl
theorem wp_md_readOf_d37 : decode prog_13_method_60_code 37 = .ok (.if_icmp .gt 124, 3) := wt_op163 wb18m8_prog_13_method_60_code_c1 9 rfl rfl rfl
theorem wp_md_readOf_d40 : decode prog_13_method_60_code 40 = .ok (.aload_n 0, 1) := wt_op42 wb18m8_prog_13_method_60_code_c1 12 rfl rfl
theorem wp_md_readOf_d41 : decode prog_13_method_60_code 41 = .ok (.getfield 91, 3) := wt_op180 wb18m8_prog_13_method_60_code_c1 13 rfl rfl rfl
theorem wp_md_readOf_d44 : decode prog_13_method_60_code 44 = .ok (.iload_n 3, 1) := wt_op29 wb18m8_prog_13_method_60_code_c1 16 rfl rfl
theorem wp_md_readOf_d45 : decode prog_13_method_60_code 45 = .ok (.aaload, 1) := wt_op50 wb18m8_prog_13_method_60_code_c1 17 rfl rfl
theorem wp_md_readOf_d46 : decode prog_13_method_60_code 46 = .ok (.iload 4, 2) := wt_op21 wb18m8_prog_13_method_60_code_c1 18 rfl rfl
theorem wp_md_readOf_d48 : decode prog_13_method_60_code 48 = .ok (.iaload, 1) := wt_op46 wb18m8_prog_13_method_60_code_c1 20 rfl rfl
theorem wp_md_readOf_d49 : decode prog_13_method_60_code 49 = .ok (.istore 5, 2) := wt_op54 wb18m8_prog_13_method_60_code_c1 21 rfl rfl
theorem wp_md_readOf_d51 : decode prog_13_method_60_code 51 = .ok (.iconst 0, 1) := wt_op3 wb18m8_prog_13_method_60_code_c1 23 rfl rfl
theorem wp_md_readOf_d52 : decode prog_13_method_60_code 52 = .ok (.istore 6, 2) := wt_op54 wb18m8_prog_13_method_60_code_c1 24 rfl rfl
theorem wp_md_readOf_d54 : decode prog_13_method_60_code 54 = .ok (.iload 6, 2) := wt_op21 wb18m8_prog_13_method_60_code_c1 26 rfl rfl
theorem wp_md_readOf_d56 : decode prog_13_method_60_code 56 = .ok (.aload_n 0, 1) := wt_op42 wb18m8_prog_13_method_60_code_c2 0 rfl rfl
theorem wp_md_readOf_d57 : decode prog_13_method_60_code 57 = .ok (.getfield 65, 3) := wt_op180 wb18m8_prog_13_method_60_code_c2 1 rfl rfl rfl
theorem wp_md_readOf_d60 : decode prog_13_method_60_code 60 = .ok (.iload 5, 2) := wt_op21 wb18m8_prog_13_method_60_code_c2 4 rfl rfl
theorem wp_md_readOf_d62 : decode prog_13_method_60_code 62 = .ok (.iaload, 1) := wt_op46 wb18m8_prog_13_method_60_code_c2 6 rfl rfl
theorem wp_md_readOf_d63 : decode prog_13_method_60_code 63 = .ok (.if_icmp .ge 92, 3) := wt_op162 wb18m8_prog_13_method_60_code_c2 7 rfl rfl rfl
theorem wp_md_readOf_d66 : decode prog_13_method_60_code 66 = .ok (.aload_n 0, 1) := wt_op42 wb18m8_prog_13_method_60_code_c2 10 rfl rfl
theorem wp_md_readOf_d67 : decode prog_13_method_60_code 67 = .ok (.getfield 85, 3) := wt_op180 wb18m8_prog_13_method_60_code_c2 11 rfl rfl rfl
theorem wp_md_readOf_d70 : decode prog_13_method_60_code 70 = .ok (.iload 5, 2) := wt_op21 wb18m8_prog_13_method_60_code_c2 14 rfl rfl
theorem wp_md_readOf_d72 : decode prog_13_method_60_code 72 = .ok (.aaload, 1) := wt_op50 wb18m8_prog_13_method_60_code_c2 16 rfl rfl
theorem wp_md_readOf_d73 : decode prog_13_method_60_code 73 = .ok (.iload 6, 2) := wt_op21 wb18m8_prog_13_method_60_code_c2 17 rfl rfl
theorem wp_md_readOf_d75 : decode prog_13_method_60_code 75 = .ok (.iaload, 1) := wt_op46 wb18m8_prog_13_method_60_code_c2 19 rfl rfl
theorem wp_md_readOf_d76 : decode prog_13_method_60_code 76 = .ok (.istore 7, 2) := wt_op54 wb18m8_prog_13_method_60_code_c2 20 rfl rfl
theorem wp_md_readOf_d78 : decode prog_13_method_60_code 78 = .ok (.aload_n 0, 1) := wt_op42 wb18m8_prog_13_method_60_code_c2 22 rfl rfl
theorem wp_md_readOf_d79 : decode prog_13_method_60_code 79 = .ok (.iload_n 1, 1) := wt_op27 wb18m8_prog_13_method_60_code_c2 23 rfl rfl
theorem wp_md_readOf_d80 : decode prog_13_method_60_code 80 = .ok (.iload 7, 2) := wt_op21 wb18m8_prog_13_method_60_code_c2 24 rfl rfl
theorem wp_md_readOf_d82 : decode prog_13_method_60_code 82 = .ok (.aload_n 0, 1) := wt_op42 wb18m8_prog_13_method_60_code_c2 26 rfl rfl
theorem wp_md_readOf_d83 : decode prog_13_method_60_code 83 = .ok (.getfield 124, 3) := wt_op180 wb18m8_prog_13_method_60_code_c2 27 rfl rfl rfl
theorem wp_md_readOf_d86 : decode prog_13_method_60_code 86 = .ok (.iload 7, 2) := wt_op21 wb18m8_prog_13_method_60_code_c3 0 rfl rfl
theorem wp_md_readOf_d88 : decode prog_13_method_60_code 88 = .ok (.iaload, 1) := wt_op46 wb18m8_prog_13_method_60_code_c3 2 rfl rfl
theorem wp_md_readOf_d89 : decode prog_13_method_60_code 89 = .ok (.invokevirtual 332, 3) := wt_op182 wb18m8_prog_13_method_60_code_c3 3 rfl rfl rfl
theorem wp_md_readOf_d92 : decode prog_13_method_60_code 92 = .ok (.istore 8, 2) := wt_op54 wb18m8_prog_13_method_60_code_c3 6 rfl rfl
theorem wp_md_readOf_d94 : decode prog_13_method_60_code 94 = .ok (.aload_n 0, 1) := wt_op42 wb18m8_prog_13_method_60_code_c3 8 rfl rfl
theorem wp_md_readOf_d95 : decode prog_13_method_60_code 95 = .ok (.getfield 124, 3) := wt_op180 wb18m8_prog_13_method_60_code_c3 9 rfl rfl rfl
theorem wp_md_readOf_d98 : decode prog_13_method_60_code 98 = .ok (.iload 7, 2) := wt_op21 wb18m8_prog_13_method_60_code_c3 12 rfl rfl
theorem wp_md_readOf_d100 : decode prog_13_method_60_code 100 = .ok (.dup2, 1) := wt_op92 wb18m8_prog_13_method_60_code_c3 14 rfl rfl
theorem wp_md_readOf_d101 : decode prog_13_method_60_code 101 = .ok (.iaload, 1) := wt_op46 wb18m8_prog_13_method_60_code_c3 15 rfl rfl
theorem wp_md_readOf_d102 : decode prog_13_method_60_code 102 = .ok (.iconst 1, 1) := wt_op4 wb18m8_prog_13_method_60_code_c3 16 rfl rfl
theorem wp_md_readOf_d103 : decode prog_13_method_60_code 103 = .ok (.iadd, 1) := wt_op96 wb18m8_prog_13_method_60_code_c3 17 rfl rfl
theorem wp_md_readOf_d104 : decode prog_13_method_60_code 104 = .ok (.iastore, 1) := wt_op79 wb18m8_prog_13_method_60_code_c3 18 rfl rfl
theorem wp_md_readOf_d105 : decode prog_13_method_60_code 105 = .ok (.aload_n 0, 1) := wt_op42 wb18m8_prog_13_method_60_code_c3 19 rfl rfl
theorem wp_md_readOf_d106 : decode prog_13_method_60_code 106 = .ok (.getfield 121, 3) := wt_op180 wb18m8_prog_13_method_60_code_c3 20 rfl rfl rfl
theorem wp_md_readOf_d109 : decode prog_13_method_60_code 109 = .ok (.iload 6, 2) := wt_op21 wb18m8_prog_13_method_60_code_c3 23 rfl rfl
theorem wp_md_readOf_d111 : decode prog_13_method_60_code 111 = .ok (.aload_n 0, 1) := wt_op42 wb18m8_prog_13_method_60_code_c3 25 rfl rfl
theorem wp_md_readOf_d112 : decode prog_13_method_60_code 112 = .ok (.getfield 50, 3) := wt_op180 wb18m8_prog_13_method_60_code_c3 26 rfl rfl rfl
theorem wp_md_readOf_d115 : decode prog_13_method_60_code 115 = .ok (.iload 8, 2) := wt_op21 wb18m8_prog_13_method_60_code_c4 0 rfl rfl
theorem wp_md_readOf_d117 : decode prog_13_method_60_code 117 = .ok (.iaload, 1) := wt_op46 wb18m8_prog_13_method_60_code_c4 2 rfl rfl
theorem wp_md_readOf_d118 : decode prog_13_method_60_code 118 = .ok (.aload_n 0, 1) := wt_op42 wb18m8_prog_13_method_60_code_c4 3 rfl rfl
theorem wp_md_readOf_d119 : decode prog_13_method_60_code 119 = .ok (.getfield 202, 3) := wt_op180 wb18m8_prog_13_method_60_code_c4 4 rfl rfl rfl
theorem wp_md_readOf_d122 : decode prog_13_method_60_code 122 = .ok (.if_icmp .ge 24, 3) := wt_op162 wb18m8_prog_13_method_60_code_c4 7 rfl rfl rfl
theorem wp_md_readOf_d125 : decode prog_13_method_60_code 125 = .ok (.aload_n 0, 1) := wt_op42 wb18m8_prog_13_method_60_code_c4 10 rfl rfl
theorem wp_md_readOf_d126 : decode prog_13_method_60_code 126 = .ok (.getfield 38, 3) := wt_op180 wb18m8_prog_13_method_60_code_c4 11 rfl rfl rfl
theorem wp_md_readOf_d129 : decode prog_13_method_60_code 129 = .ok (.iload 7, 2) := wt_op21 wb18m8_prog_13_method_60_code_c4 14 rfl rfl
theorem wp_md_readOf_d131 : decode prog_13_method_60_code 131 = .ok (.iaload, 1) := wt_op46 wb18m8_prog_13_method_60_code_c4 16 rfl rfl
theorem wp_md_readOf_d132 : decode prog_13_method_60_code 132 = .ok (.iconst (-1), 1) := wt_op2 wb18m8_prog_13_method_60_code_c4 17 rfl rfl
theorem wp_md_readOf_d133 : decode prog_13_method_60_code 133 = .ok (.if_icmp .eq 13, 3) := wt_op159 wb18m8_prog_13_method_60_code_c4 18 rfl rfl rfl
theorem wp_md_readOf_d136 : decode prog_13_method_60_code 136 = .ok (.aload_n 0, 1) := wt_op42 wb18m8_prog_13_method_60_code_c4 21 rfl rfl
theorem wp_md_readOf_d137 : decode prog_13_method_60_code 137 = .ok (.getfield 38, 3) := wt_op180 wb18m8_prog_13_method_60_code_c4 22 rfl rfl rfl
theorem wp_md_readOf_d140 : decode prog_13_method_60_code 140 = .ok (.iload 7, 2) := wt_op21 wb18m8_prog_13_method_60_code_c4 25 rfl rfl
theorem wp_md_readOf_d142 : decode prog_13_method_60_code 142 = .ok (.iaload, 1) := wt_op46 wb18m8_prog_13_method_60_code_c4 27 rfl rfl
theorem wp_md_readOf_d143 : decode prog_13_method_60_code 143 = .ok (.goto 5, 3) := wt_op167 wb18m8_prog_13_method_60_code_c5 0 rfl rfl rfl
theorem wp_md_readOf_d146 : decode prog_13_method_60_code 146 = .ok (.iload 7, 2) := wt_op21 wb18m8_prog_13_method_60_code_c5 3 rfl rfl
theorem wp_md_readOf_d148 : decode prog_13_method_60_code 148 = .ok (.iastore, 1) := wt_op79 wb18m8_prog_13_method_60_code_c5 5 rfl rfl
theorem wp_md_readOf_d149 : decode prog_13_method_60_code 149 = .ok (.iinc 6 1, 3) := wt_op132 wb18m8_prog_13_method_60_code_c5 6 rfl rfl rfl
theorem wp_md_readOf_d152 : decode prog_13_method_60_code 152 = .ok (.goto (-98), 3) := wt_op167 wb18m8_prog_13_method_60_code_c5 9 rfl rfl rfl
theorem wp_md_readOf_d155 : decode prog_13_method_60_code 155 = .ok (.iinc 4 1, 3) := wt_op132 wb18m8_prog_13_method_60_code_c5 12 rfl rfl rfl
theorem wp_md_readOf_d158 : decode prog_13_method_60_code 158 = .ok (.goto (-124), 3) := wt_op167 wb18m8_prog_13_method_60_code_c5 15 rfl rfl rfl
theorem wp_md_readOf_d161 : decode prog_13_method_60_code 161 = .ok (.aload_n 0, 1) := wt_op42 wb18m8_prog_13_method_60_code_c5 18 rfl rfl
theorem wp_md_readOf_d162 : decode prog_13_method_60_code 162 = .ok (.getfield 65, 3) := wt_op180 wb18m8_prog_13_method_60_code_c5 19 rfl rfl rfl
theorem wp_md_readOf_d165 : decode prog_13_method_60_code 165 = .ok (.aload_n 0, 1) := wt_op42 wb18m8_prog_13_method_60_code_c5 22 rfl rfl
theorem wp_md_readOf_d166 : decode prog_13_method_60_code 166 = .ok (.getfield 91, 3) := wt_op180 wb18m8_prog_13_method_60_code_c5 23 rfl rfl rfl
theorem wp_md_readOf_d169 : decode prog_13_method_60_code 169 = .ok (.iload_n 3, 1) := wt_op29 wb18m8_prog_13_method_60_code_c5 26 rfl rfl
theorem wp_md_readOf_d170 : decode prog_13_method_60_code 170 = .ok (.aaload, 1) := wt_op50 wb18m8_prog_13_method_60_code_c5 27 rfl rfl
theorem wp_md_readOf_d171 : decode prog_13_method_60_code 171 = .ok (.iload_n 2, 1) := wt_op28 wb18m8_prog_13_method_60_code_c6 0 rfl rfl
theorem wp_md_readOf_d172 : decode prog_13_method_60_code 172 = .ok (.iaload, 1) := wt_op46 wb18m8_prog_13_method_60_code_c6 1 rfl rfl
theorem wp_md_readOf_d173 : decode prog_13_method_60_code 173 = .ok (.iaload, 1) := wt_op46 wb18m8_prog_13_method_60_code_c6 2 rfl rfl
theorem wp_md_readOf_d174 : decode prog_13_method_60_code 174 = .ok (.istore 4, 2) := wt_op54 wb18m8_prog_13_method_60_code_c6 3 rfl rfl
theorem wp_md_readOf_d176 : decode prog_13_method_60_code 176 = .ok (.iconst 0, 1) := wt_op3 wb18m8_prog_13_method_60_code_c6 5 rfl rfl
theorem wp_md_readOf_d177 : decode prog_13_method_60_code 177 = .ok (.istore 5, 2) := wt_op54 wb18m8_prog_13_method_60_code_c6 6 rfl rfl
theorem wp_md_readOf_d179 : decode prog_13_method_60_code 179 = .ok (.iload 5, 2) := wt_op21 wb18m8_prog_13_method_60_code_c6 8 rfl rfl
theorem wp_md_readOf_d181 : decode prog_13_method_60_code 181 = .ok (.aload_n 0, 1) := wt_op42 wb18m8_prog_13_method_60_code_c6 10 rfl rfl
theorem wp_md_readOf_d182 : decode prog_13_method_60_code 182 = .ok (.getfield 259, 3) := wt_op180 wb18m8_prog_13_method_60_code_c6 11 rfl rfl rfl
theorem wp_md_readOf_d185 : decode prog_13_method_60_code 185 = .ok (.if_icmp .ge 84, 3) := wt_op162 wb18m8_prog_13_method_60_code_c6 14 rfl rfl rfl
theorem wp_md_readOf_d188 : decode prog_13_method_60_code 188 = .ok (.aload_n 0, 1) := wt_op42 wb18m8_prog_13_method_60_code_c6 17 rfl rfl
theorem wp_md_readOf_d189 : decode prog_13_method_60_code 189 = .ok (.getfield 65, 3) := wt_op180 wb18m8_prog_13_method_60_code_c6 18 rfl rfl rfl
theorem wp_md_readOf_d192 : decode prog_13_method_60_code 192 = .ok (.iload 5, 2) := wt_op21 wb18m8_prog_13_method_60_code_c6 21 rfl rfl
theorem wp_md_readOf_d194 : decode prog_13_method_60_code 194 = .ok (.iaload, 1) := wt_op46 wb18m8_prog_13_method_60_code_c6 23 rfl rfl
theorem wp_md_readOf_d195 : decode prog_13_method_60_code 195 = .ok (.iload 4, 2) := wt_op21 wb18m8_prog_13_method_60_code_c6 24 rfl rfl
theorem wp_md_readOf_d197 : decode prog_13_method_60_code 197 = .ok (.if_icmp .ne 7, 3) := wt_op160 wb18m8_prog_13_method_60_code_c6 26 rfl rfl rfl
theorem wp_md_readOf_d200 : decode prog_13_method_60_code 200 = .ok (.iconst 1, 1) := wt_op4 wb18m8_prog_13_method_60_code_c7 0 rfl rfl
theorem wp_md_readOf_d201 : decode prog_13_method_60_code 201 = .ok (.goto 4, 3) := wt_op167 wb18m8_prog_13_method_60_code_c7 1 rfl rfl rfl
theorem wp_md_readOf_d204 : decode prog_13_method_60_code 204 = .ok (.iconst 0, 1) := wt_op3 wb18m8_prog_13_method_60_code_c7 4 rfl rfl
theorem wp_md_readOf_d205 : decode prog_13_method_60_code 205 = .ok (.istore 6, 2) := wt_op54 wb18m8_prog_13_method_60_code_c7 5 rfl rfl
theorem wp_md_readOf_d207 : decode prog_13_method_60_code 207 = .ok (.iconst 0, 1) := wt_op3 wb18m8_prog_13_method_60_code_c7 7 rfl rfl
theorem wp_md_readOf_d208 : decode prog_13_method_60_code 208 = .ok (.istore 7, 2) := wt_op54 wb18m8_prog_13_method_60_code_c7 8 rfl rfl
theorem wp_md_readOf_d210 : decode prog_13_method_60_code 210 = .ok (.iload 7, 2) := wt_op21 wb18m8_prog_13_method_60_code_c7 10 rfl rfl
theorem wp_md_readOf_d212 : decode prog_13_method_60_code 212 = .ok (.iload 4, 2) := wt_op21 wb18m8_prog_13_method_60_code_c7 12 rfl rfl
theorem wp_md_readOf_d214 : decode prog_13_method_60_code 214 = .ok (.if_icmp .ge 41, 3) := wt_op162 wb18m8_prog_13_method_60_code_c7 14 rfl rfl rfl
theorem wp_md_readOf_d217 : decode prog_13_method_60_code 217 = .ok (.iload 6, 2) := wt_op21 wb18m8_prog_13_method_60_code_c7 17 rfl rfl
theorem wp_md_readOf_d219 : decode prog_13_method_60_code 219 = .ok (.ifCond .eq 36, 3) := wt_op153 wb18m8_prog_13_method_60_code_c7 19 rfl rfl rfl
theorem wp_md_readOf_d222 : decode prog_13_method_60_code 222 = .ok (.aload_n 0, 1) := wt_op42 wb18m8_prog_13_method_60_code_c7 22 rfl rfl
theorem wp_md_readOf_d223 : decode prog_13_method_60_code 223 = .ok (.getfield 85, 3) := wt_op180 wb18m8_prog_13_method_60_code_c7 23 rfl rfl rfl
theorem wp_md_readOf_d226 : decode prog_13_method_60_code 226 = .ok (.iload 5, 2) := wt_op21 wb18m8_prog_13_method_60_code_c7 26 rfl rfl
theorem wp_md_readOf_d228 : decode prog_13_method_60_code 228 = .ok (.aaload, 1) := wt_op50 wb18m8_prog_13_method_60_code_c8 0 rfl rfl
theorem wp_md_readOf_d229 : decode prog_13_method_60_code 229 = .ok (.iload 7, 2) := wt_op21 wb18m8_prog_13_method_60_code_c8 1 rfl rfl
theorem wp_md_readOf_d231 : decode prog_13_method_60_code 231 = .ok (.iaload, 1) := wt_op46 wb18m8_prog_13_method_60_code_c8 3 rfl rfl
theorem wp_md_readOf_d232 : decode prog_13_method_60_code 232 = .ok (.aload_n 0, 1) := wt_op42 wb18m8_prog_13_method_60_code_c8 4 rfl rfl
theorem wp_md_readOf_d233 : decode prog_13_method_60_code 233 = .ok (.getfield 121, 3) := wt_op180 wb18m8_prog_13_method_60_code_c8 5 rfl rfl rfl
theorem wp_md_readOf_d236 : decode prog_13_method_60_code 236 = .ok (.iload 7, 2) := wt_op21 wb18m8_prog_13_method_60_code_c8 8 rfl rfl
theorem wp_md_readOf_d238 : decode prog_13_method_60_code 238 = .ok (.iaload, 1) := wt_op46 wb18m8_prog_13_method_60_code_c8 10 rfl rfl
theorem wp_md_readOf_d239 : decode prog_13_method_60_code 239 = .ok (.if_icmp .ne 7, 3) := wt_op160 wb18m8_prog_13_method_60_code_c8 11 rfl rfl rfl
theorem wp_md_readOf_d242 : decode prog_13_method_60_code 242 = .ok (.iconst 1, 1) := wt_op4 wb18m8_prog_13_method_60_code_c8 14 rfl rfl
theorem wp_md_readOf_d243 : decode prog_13_method_60_code 243 = .ok (.goto 4, 3) := wt_op167 wb18m8_prog_13_method_60_code_c8 15 rfl rfl rfl
theorem wp_md_readOf_d246 : decode prog_13_method_60_code 246 = .ok (.iconst 0, 1) := wt_op3 wb18m8_prog_13_method_60_code_c8 18 rfl rfl
theorem wp_md_readOf_d247 : decode prog_13_method_60_code 247 = .ok (.istore 6, 2) := wt_op54 wb18m8_prog_13_method_60_code_c8 19 rfl rfl
theorem wp_md_readOf_d249 : decode prog_13_method_60_code 249 = .ok (.iinc 7 1, 3) := wt_op132 wb18m8_prog_13_method_60_code_c8 21 rfl rfl rfl
theorem wp_md_readOf_d252 : decode prog_13_method_60_code 252 = .ok (.goto (-42), 3) := wt_op167 wb18m8_prog_13_method_60_code_c8 24 rfl rfl rfl
theorem wp_md_readOf_d255 : decode prog_13_method_60_code 255 = .ok (.iload 6, 2) := wt_op21 wb18m8_prog_13_method_60_code_c8 27 rfl rfl
theorem wp_md_readOf_d257 : decode prog_13_method_60_code 257 = .ok (.ifCond .eq 6, 3) := wt_op153 wb18m8_prog_13_method_60_code_c9 0 rfl rfl rfl
theorem wp_md_readOf_d260 : decode prog_13_method_60_code 260 = .ok (.iload 5, 2) := wt_op21 wb18m8_prog_13_method_60_code_c9 3 rfl rfl
theorem wp_md_readOf_d262 : decode prog_13_method_60_code 262 = .ok (.ireturn, 1) := wt_op172 wb18m8_prog_13_method_60_code_c9 5 rfl rfl
theorem wp_md_readOf_d263 : decode prog_13_method_60_code 263 = .ok (.iinc 5 1, 3) := wt_op132 wb18m8_prog_13_method_60_code_c9 6 rfl rfl rfl
theorem wp_md_readOf_d266 : decode prog_13_method_60_code 266 = .ok (.goto (-87), 3) := wt_op167 wb18m8_prog_13_method_60_code_c9 9 rfl rfl rfl
theorem wp_md_readOf_d269 : decode prog_13_method_60_code 269 = .ok (.iconst (-1), 1) := wt_op2 wb18m8_prog_13_method_60_code_c9 12 rfl rfl
theorem wp_md_readOf_d270 : decode prog_13_method_60_code 270 = .ok (.ireturn, 1) := wt_op172 wb18m8_prog_13_method_60_code_c9 13 rfl rfl
noncomputable def wp_md_readOf_B255 (n : Nat) (x4 : Int32) (x5 : Int32) (x6 : Int32) (K179 : Int32 × wt_St → Option (Int32 × wt_St)) (σ : wt_St) : Option (Int32 × wt_St) :=
  if x6 = 0 then
    K179 ((x5 + (1 : Int32)), σ)
  else
    some (x5, σ)
set_option maxRecDepth 100000 in
set_option maxHeartbeats 4000000 in
theorem wp_md_readOf_B255_ok  {x4 : Int32} {x5 : Int32} {x6 : Int32} {X : wt_X} {n : Nat} {res : Int32 × wt_St} (hE : wt_Ok X prog_13_method_60_code 9 "WornTypeModel" 1 0) (hR : wt_Rt X (some .int) (some res.1) res.2) (hD : ∀ i, 108 ≤ i → i < 321 → wt_dom (wt_xw X) i)  {K179 : Int32 × wt_St → Option (Int32 × wt_St)} (hK179 : ∀ s : Int32 × wt_St, K179 s = some res → wt_V X 0 s.2 179 [some (.ref (wt_ad (wt_xw X) 108)), none, none, none, some (.int x4), some (.int s.1), none, none, none] []) {σ : wt_St} (h : wp_md_readOf_B255 n x4 x5 x6 K179 σ = some res) : wt_V X 0 σ 255 [some (.ref (wt_ad (wt_xw X) 108)), none, none, none, some (.int x4), some (.int x5), some (.int x6), none, none] [] := by
  unfold wp_md_readOf_B255 at h
  refine wt_iload hE wp_md_readOf_d255 rfl ?_
  refine wt_if_eq hE 263 wp_md_readOf_d257 rfl (fun c11 => ?_) (fun c11 => ?_)
  · have h := wt_ip c11 h
    refine wt_iinc hE (x5 + (1 : Int32)) [some (.ref (wt_ad (wt_xw X) 108)), none, none, none, some (.int x4), some (.int (x5 + (1 : Int32))), some (.int x6), none, none] wp_md_readOf_d263 (by decide) rfl rfl rfl ?_
    refine wt_goto hE 179 wp_md_readOf_d266 rfl ?_
    refine wt_wk [true, true, true, true, true, true, false, true, true] rfl ?_
    exact hK179 ((x5 + (1 : Int32)), σ) h
  · have h := wt_in c11 h
    refine wt_iload hE wp_md_readOf_d260 rfl ?_
    cases h
    exact wt_iret hE hR wp_md_readOf_d262
noncomputable def wp_md_readOf_B247 (n : Nat) (x4 : Int32) (x5 : Int32) (x7 : Int32) (K179 : Int32 × wt_St → Option (Int32 × wt_St)) (K210 : Int32 × Int32 × wt_St → Option (Int32 × wt_St)) (y0 : Int32) (σ : wt_St) : Option (Int32 × wt_St) :=
  K210 (y0, (x7 + (1 : Int32)), σ)
set_option maxRecDepth 100000 in
set_option maxHeartbeats 4000000 in
theorem wp_md_readOf_B247_ok  {x4 : Int32} {x5 : Int32} {x7 : Int32} {X : wt_X} {n : Nat} {res : Int32 × wt_St} (hE : wt_Ok X prog_13_method_60_code 9 "WornTypeModel" 1 0) (hR : wt_Rt X (some .int) (some res.1) res.2) (hD : ∀ i, 108 ≤ i → i < 321 → wt_dom (wt_xw X) i)  {K179 : Int32 × wt_St → Option (Int32 × wt_St)} (hK179 : ∀ s : Int32 × wt_St, K179 s = some res → wt_V X 0 s.2 179 [some (.ref (wt_ad (wt_xw X) 108)), none, none, none, some (.int x4), some (.int s.1), none, none, none] []) {K210 : Int32 × Int32 × wt_St → Option (Int32 × wt_St)} (hK210 : ∀ s : Int32 × Int32 × wt_St, K210 s = some res → wt_V X 0 s.2.2 210 [some (.ref (wt_ad (wt_xw X) 108)), none, none, none, some (.int x4), some (.int x5), some (.int s.1), some (.int s.2.1), none] []) {σ : wt_St} {y0 : Int32} (h : wp_md_readOf_B247 n x4 x5 x7 K179 K210 y0 σ = some res) : wt_V X 0 σ 247 [some (.ref (wt_ad (wt_xw X) 108)), none, none, none, some (.int x4), some (.int x5), none, some (.int x7), none] [.int y0] := by
  unfold wp_md_readOf_B247 at h
  refine wt_istore hE [some (.ref (wt_ad (wt_xw X) 108)), none, none, none, some (.int x4), some (.int x5), some (.int y0), some (.int x7), none] wp_md_readOf_d247 (Nat.le_of_ble_eq_true rfl) rfl ?_
  refine wt_iinc hE (x7 + (1 : Int32)) [some (.ref (wt_ad (wt_xw X) 108)), none, none, none, some (.int x4), some (.int x5), some (.int y0), some (.int (x7 + (1 : Int32))), none] wp_md_readOf_d249 (by decide) rfl rfl rfl ?_
  refine wt_goto hE 210 wp_md_readOf_d252 rfl ?_
  exact hK210 (y0, (x7 + (1 : Int32)), σ) h
noncomputable def wp_md_readOf_B210 (n : Nat) (x4 : Int32) (x5 : Int32) (K179 : Int32 × wt_St → Option (Int32 × wt_St)) (K210 : Int32 × Int32 × wt_St → Option (Int32 × wt_St)) (s : Int32 × Int32 × wt_St) : Option (Int32 × wt_St) :=
  if x4 ≤ s.2.1 then
    wp_md_readOf_B255 n x4 x5 s.1 K179 s.2.2
  else
    if s.1 = 0 then
      wp_md_readOf_B255 n x4 x5 s.1 K179 s.2.2
    else
      if x5 < 0 ∨ 60 ≤ Int32.toNatClampNeg x5 then none else
      if s.2.1 < 0 ∨ 9 ≤ Int32.toNatClampNeg s.2.1 then none else
      if s.2.1 < 0 ∨ 9 ≤ Int32.toNatClampNeg s.2.1 then none else
      if (wt_ga s.2.2 (193 + Int32.toNatClampNeg x5) (Int32.toNatClampNeg s.2.1)) = (wt_ga s.2.2 289 (Int32.toNatClampNeg s.2.1)) then
        wp_md_readOf_B247 n x4 x5 s.2.1 K179 K210 (1 : Int32) s.2.2
      else
        wp_md_readOf_B247 n x4 x5 s.2.1 K179 K210 (0 : Int32) s.2.2
set_option maxRecDepth 100000 in
set_option maxHeartbeats 4000000 in
theorem wp_md_readOf_B210_ok  {x4 : Int32} {x5 : Int32} {X : wt_X} {n : Nat} {res : Int32 × wt_St} (hE : wt_Ok X prog_13_method_60_code 9 "WornTypeModel" 1 0) (hR : wt_Rt X (some .int) (some res.1) res.2) (hD : ∀ i, 108 ≤ i → i < 321 → wt_dom (wt_xw X) i)  {K179 : Int32 × wt_St → Option (Int32 × wt_St)} (hK179 : ∀ s : Int32 × wt_St, K179 s = some res → wt_V X 0 s.2 179 [some (.ref (wt_ad (wt_xw X) 108)), none, none, none, some (.int x4), some (.int s.1), none, none, none] []) {K210 : Int32 × Int32 × wt_St → Option (Int32 × wt_St)} (hK210 : ∀ s : Int32 × Int32 × wt_St, K210 s = some res → wt_V X 0 s.2.2 210 [some (.ref (wt_ad (wt_xw X) 108)), none, none, none, some (.int x4), some (.int x5), some (.int s.1), some (.int s.2.1), none] []) {s : Int32 × Int32 × wt_St} (h : wp_md_readOf_B210 n x4 x5 K179 K210 s = some res) : wt_V X 0 s.2.2 210 [some (.ref (wt_ad (wt_xw X) 108)), none, none, none, some (.int x4), some (.int x5), some (.int s.1), some (.int s.2.1), none] [] := by
  unfold wp_md_readOf_B210 at h
  refine wt_iload hE wp_md_readOf_d210 rfl ?_
  refine wt_iload hE wp_md_readOf_d212 rfl ?_
  refine wt_icmp_ge hE 255 wp_md_readOf_d214 rfl (fun c10 => ?_) (fun c10 => ?_)
  · have h := wt_ip c10 h
    refine wt_wk [true, true, true, true, true, true, true, false, true] rfl ?_
    exact wp_md_readOf_B255_ok hE hR hD hK179 h
  · have h := wt_in c10 h
    refine wt_iload hE wp_md_readOf_d217 rfl ?_
    refine wt_if_eq hE 255 wp_md_readOf_d219 rfl (fun c12 => ?_) (fun c12 => ?_)
    · have h := wt_ip c12 h
      refine wt_wk [true, true, true, true, true, true, true, false, true] rfl ?_
      exact wp_md_readOf_B255_ok hE hR hD hK179 h
    · have h := wt_in c12 h
      refine wt_aload_n hE wp_md_readOf_d222 rfl ?_
      refine wt_getr hE (r := 192) wt_lf_md_85 (hD 108 (by decide) (by decide)) wt_L108 rfl wp_md_readOf_d223 ?_
      refine wt_iload hE wp_md_readOf_d226 rfl ?_
      obtain ⟨g13, h⟩ := wt_gd h
      have lg13 := wt_lt g13
      refine wt_aald1 hE (hD 192 (by decide) (by decide)) wt_L192 g13 wp_md_readOf_d228 ?_
      refine wt_iload hE wp_md_readOf_d229 rfl ?_
      obtain ⟨g14, h⟩ := wt_gd h
      refine wt_iald hE (hD _ (by omega) (by omega)) (wt_G193 _ lg13) g14 wp_md_readOf_d231 ?_
      refine wt_aload_n hE wp_md_readOf_d232 rfl ?_
      refine wt_getr hE (r := 289) wt_lf_md_121 (hD 108 (by decide) (by decide)) wt_L108 rfl wp_md_readOf_d233 ?_
      refine wt_iload hE wp_md_readOf_d236 rfl ?_
      obtain ⟨g15, h⟩ := wt_gd h
      refine wt_iald hE (hD 289 (by decide) (by decide)) wt_L289 g15 wp_md_readOf_d238 ?_
      refine wt_icmp_ne hE 246 wp_md_readOf_d239 rfl (fun c16 => ?_) (fun c16 => ?_)
      · have h := wt_in c16 h
        refine wt_iconst hE (0 : Int32) wp_md_readOf_d246 wt_ci_0 ?_
        refine wt_wk [true, true, true, true, true, true, false, true, true] rfl ?_
        exact wp_md_readOf_B247_ok hE hR hD hK179 hK210 h
      · have h := wt_ip c16 h
        refine wt_iconst hE (1 : Int32) wp_md_readOf_d242 wt_ci_1 ?_
        refine wt_goto hE 247 wp_md_readOf_d243 rfl ?_
        refine wt_wk [true, true, true, true, true, true, false, true, true] rfl ?_
        exact wp_md_readOf_B247_ok hE hR hD hK179 hK210 h
noncomputable def wp_md_readOf_B205 (n : Nat) (x4 : Int32) (x5 : Int32) (K179 : Int32 × wt_St → Option (Int32 × wt_St)) (y0 : Int32) (σ : wt_St) : Option (Int32 × wt_St) :=
  wt_it (wp_md_readOf_B210 n x4 x5 K179) n (y0, (0 : Int32), σ)
set_option maxRecDepth 100000 in
set_option maxHeartbeats 4000000 in
theorem wp_md_readOf_B205_ok  {x4 : Int32} {x5 : Int32} {X : wt_X} {n : Nat} {res : Int32 × wt_St} (hE : wt_Ok X prog_13_method_60_code 9 "WornTypeModel" 1 0) (hR : wt_Rt X (some .int) (some res.1) res.2) (hD : ∀ i, 108 ≤ i → i < 321 → wt_dom (wt_xw X) i)  {K179 : Int32 × wt_St → Option (Int32 × wt_St)} (hK179 : ∀ s : Int32 × wt_St, K179 s = some res → wt_V X 0 s.2 179 [some (.ref (wt_ad (wt_xw X) 108)), none, none, none, some (.int x4), some (.int s.1), none, none, none] []) {σ : wt_St} {y0 : Int32} (h : wp_md_readOf_B205 n x4 x5 K179 y0 σ = some res) : wt_V X 0 σ 205 [some (.ref (wt_ad (wt_xw X) 108)), none, none, none, some (.int x4), some (.int x5), none, none, none] [.int y0] := by
  unfold wp_md_readOf_B205 at h
  refine wt_istore hE [some (.ref (wt_ad (wt_xw X) 108)), none, none, none, some (.int x4), some (.int x5), some (.int y0), none, none] wp_md_readOf_d205 (Nat.le_of_ble_eq_true rfl) rfl ?_
  refine wt_iconst hE (0 : Int32) wp_md_readOf_d207 wt_ci_0 ?_
  refine wt_istore hE [some (.ref (wt_ad (wt_xw X) 108)), none, none, none, some (.int x4), some (.int x5), some (.int y0), some (.int (0 : Int32)), none] wp_md_readOf_d208 (Nat.le_of_ble_eq_true rfl) rfl ?_
  exact wt_it_ind (fun z => wt_V X 0 z.2.2 210 [some (.ref (wt_ad (wt_xw X) 108)), none, none, none, some (.int x4), some (.int x5), some (.int z.1), some (.int z.2.1), none] []) (fun K hK z h => wp_md_readOf_B210_ok hE hR hD hK179 hK h) n (y0, (0 : Int32), σ) h
noncomputable def wp_md_readOf_B179 (n : Nat) (x4 : Int32) (K179 : Int32 × wt_St → Option (Int32 × wt_St)) (s : Int32 × wt_St) : Option (Int32 × wt_St) :=
  if (wt_gf s.2 108 28) ≤ s.1 then
    some ((-1 : Int32), s.2)
  else
    if s.1 < 0 ∨ 60 ≤ Int32.toNatClampNeg s.1 then none else
    if (wt_ga s.2 126 (Int32.toNatClampNeg s.1)) = x4 then
      wp_md_readOf_B205 n x4 s.1 K179 (1 : Int32) s.2
    else
      wp_md_readOf_B205 n x4 s.1 K179 (0 : Int32) s.2
set_option maxRecDepth 100000 in
set_option maxHeartbeats 4000000 in
theorem wp_md_readOf_B179_ok  {x4 : Int32} {X : wt_X} {n : Nat} {res : Int32 × wt_St} (hE : wt_Ok X prog_13_method_60_code 9 "WornTypeModel" 1 0) (hR : wt_Rt X (some .int) (some res.1) res.2) (hD : ∀ i, 108 ≤ i → i < 321 → wt_dom (wt_xw X) i)  {K179 : Int32 × wt_St → Option (Int32 × wt_St)} (hK179 : ∀ s : Int32 × wt_St, K179 s = some res → wt_V X 0 s.2 179 [some (.ref (wt_ad (wt_xw X) 108)), none, none, none, some (.int x4), some (.int s.1), none, none, none] []) {s : Int32 × wt_St} (h : wp_md_readOf_B179 n x4 K179 s = some res) : wt_V X 0 s.2 179 [some (.ref (wt_ad (wt_xw X) 108)), none, none, none, some (.int x4), some (.int s.1), none, none, none] [] := by
  unfold wp_md_readOf_B179 at h
  refine wt_iload hE wp_md_readOf_d179 rfl ?_
  refine wt_aload_n hE wp_md_readOf_d181 rfl ?_
  refine wt_geti hE wt_lf_md_259 (hD 108 (by decide) (by decide)) wt_L108 rfl wp_md_readOf_d182 ?_
  refine wt_icmp_ge hE 269 wp_md_readOf_d185 rfl (fun c7 => ?_) (fun c7 => ?_)
  · have h := wt_ip c7 h
    refine wt_iconst hE (-1 : Int32) wp_md_readOf_d269 wt_ci_m1 ?_
    cases h
    exact wt_iret hE hR wp_md_readOf_d270
  · have h := wt_in c7 h
    refine wt_aload_n hE wp_md_readOf_d188 rfl ?_
    refine wt_getr hE (r := 126) wt_lf_md_65 (hD 108 (by decide) (by decide)) wt_L108 rfl wp_md_readOf_d189 ?_
    refine wt_iload hE wp_md_readOf_d192 rfl ?_
    obtain ⟨g8, h⟩ := wt_gd h
    refine wt_iald hE (hD 126 (by decide) (by decide)) wt_L126 g8 wp_md_readOf_d194 ?_
    refine wt_iload hE wp_md_readOf_d195 rfl ?_
    refine wt_icmp_ne hE 204 wp_md_readOf_d197 rfl (fun c9 => ?_) (fun c9 => ?_)
    · have h := wt_in c9 h
      refine wt_iconst hE (0 : Int32) wp_md_readOf_d204 wt_ci_0 ?_
      exact wp_md_readOf_B205_ok hE hR hD hK179 h
    · have h := wt_ip c9 h
      refine wt_iconst hE (1 : Int32) wp_md_readOf_d200 wt_ci_1 ?_
      refine wt_goto hE 205 wp_md_readOf_d201 rfl ?_
      exact wp_md_readOf_B205_ok hE hR hD hK179 h
noncomputable def wp_md_readOf_B148 (n : Nat) (x1 : Int32) (x2 : Int32) (x3 : Int32) (x4 : Int32) (x5 : Int32) (x6 : Int32) (K34 : Int32 × wt_St → Option (Int32 × wt_St)) (K54 : Int32 × wt_St → Option (Int32 × wt_St)) (e0 : Nat) (y1 : Int32) (y2 : Int32) (σ : wt_St) : Option (Int32 × wt_St) :=
  if y1 < 0 ∨ 9 ≤ Int32.toNatClampNeg y1 then none else
  K54 ((x6 + (1 : Int32)), (wt_sa σ e0 (Int32.toNatClampNeg y1) y2))
set_option maxRecDepth 100000 in
set_option maxHeartbeats 4000000 in
theorem wp_md_readOf_B148_ok  {x1 : Int32} {x2 : Int32} {x3 : Int32} {x4 : Int32} {x5 : Int32} {x6 : Int32} {e0 : Nat} {X : wt_X} {n : Nat} {res : Int32 × wt_St} (hE : wt_Ok X prog_13_method_60_code 9 "WornTypeModel" 1 0) (hR : wt_Rt X (some .int) (some res.1) res.2) (hD : ∀ i, 108 ≤ i → i < 321 → wt_dom (wt_xw X) i)  (hA_e0 : wt_LAY[e0]? = some (0, 9, [])) (hd_e0 : wt_dom (wt_xw X) e0) {K34 : Int32 × wt_St → Option (Int32 × wt_St)} (hK34 : ∀ s : Int32 × wt_St, K34 s = some res → wt_V X 0 s.2 34 [some (.ref (wt_ad (wt_xw X) 108)), some (.int x1), some (.int x2), some (.int x3), some (.int s.1), none, none, none, none] []) {K54 : Int32 × wt_St → Option (Int32 × wt_St)} (hK54 : ∀ s : Int32 × wt_St, K54 s = some res → wt_V X 0 s.2 54 [some (.ref (wt_ad (wt_xw X) 108)), some (.int x1), some (.int x2), some (.int x3), some (.int x4), some (.int x5), some (.int s.1), none, none] []) {σ : wt_St} {y1 : Int32} {y2 : Int32} (h : wp_md_readOf_B148 n x1 x2 x3 x4 x5 x6 K34 K54 e0 y1 y2 σ = some res) : wt_V X 0 σ 148 [some (.ref (wt_ad (wt_xw X) 108)), some (.int x1), some (.int x2), some (.int x3), some (.int x4), some (.int x5), some (.int x6), none, none] [.int y2, .int y1, .ref (wt_ad (wt_xw X) e0)] := by
  unfold wp_md_readOf_B148 at h
  obtain ⟨g29, h⟩ := wt_gd h
  refine wt_iast hE hd_e0 hA_e0 g29 wp_md_readOf_d148 ?_
  refine wt_iinc hE (x6 + (1 : Int32)) [some (.ref (wt_ad (wt_xw X) 108)), some (.int x1), some (.int x2), some (.int x3), some (.int x4), some (.int x5), some (.int (x6 + (1 : Int32))), none, none] wp_md_readOf_d149 (by decide) rfl rfl rfl ?_
  refine wt_goto hE 54 wp_md_readOf_d152 rfl ?_
  exact hK54 ((x6 + (1 : Int32)), (wt_sa σ e0 (Int32.toNatClampNeg y1) y2)) h
noncomputable def wp_md_readOf_B146 (n : Nat) (x1 : Int32) (x2 : Int32) (x3 : Int32) (x4 : Int32) (x5 : Int32) (x6 : Int32) (x7 : Int32) (K34 : Int32 × wt_St → Option (Int32 × wt_St)) (K54 : Int32 × wt_St → Option (Int32 × wt_St)) (e0 : Nat) (y1 : Int32) (σ : wt_St) : Option (Int32 × wt_St) :=
  wp_md_readOf_B148 n x1 x2 x3 x4 x5 x6 K34 K54 e0 y1 x7 σ
set_option maxRecDepth 100000 in
set_option maxHeartbeats 4000000 in
theorem wp_md_readOf_B146_ok  {x1 : Int32} {x2 : Int32} {x3 : Int32} {x4 : Int32} {x5 : Int32} {x6 : Int32} {x7 : Int32} {e0 : Nat} {X : wt_X} {n : Nat} {res : Int32 × wt_St} (hE : wt_Ok X prog_13_method_60_code 9 "WornTypeModel" 1 0) (hR : wt_Rt X (some .int) (some res.1) res.2) (hD : ∀ i, 108 ≤ i → i < 321 → wt_dom (wt_xw X) i)  (hA_e0 : wt_LAY[e0]? = some (0, 9, [])) (hd_e0 : wt_dom (wt_xw X) e0) {K34 : Int32 × wt_St → Option (Int32 × wt_St)} (hK34 : ∀ s : Int32 × wt_St, K34 s = some res → wt_V X 0 s.2 34 [some (.ref (wt_ad (wt_xw X) 108)), some (.int x1), some (.int x2), some (.int x3), some (.int s.1), none, none, none, none] []) {K54 : Int32 × wt_St → Option (Int32 × wt_St)} (hK54 : ∀ s : Int32 × wt_St, K54 s = some res → wt_V X 0 s.2 54 [some (.ref (wt_ad (wt_xw X) 108)), some (.int x1), some (.int x2), some (.int x3), some (.int x4), some (.int x5), some (.int s.1), none, none] []) {σ : wt_St} {y1 : Int32} (h : wp_md_readOf_B146 n x1 x2 x3 x4 x5 x6 x7 K34 K54 e0 y1 σ = some res) : wt_V X 0 σ 146 [some (.ref (wt_ad (wt_xw X) 108)), some (.int x1), some (.int x2), some (.int x3), some (.int x4), some (.int x5), some (.int x6), some (.int x7), none] [.int y1, .ref (wt_ad (wt_xw X) e0)] := by
  unfold wp_md_readOf_B146 at h
  refine wt_iload hE wp_md_readOf_d146 rfl ?_
  refine wt_wk [true, true, true, true, true, true, true, false, true] rfl ?_
  exact wp_md_readOf_B148_ok hE hR hD hA_e0 hd_e0 hK34 hK54 h
noncomputable def wp_md_readOf_B54 (n : Nat) (x1 : Int32) (x2 : Int32) (x3 : Int32) (x4 : Int32) (x5 : Int32) (K34 : Int32 × wt_St → Option (Int32 × wt_St)) (K54 : Int32 × wt_St → Option (Int32 × wt_St)) (s : Int32 × wt_St) : Option (Int32 × wt_St) :=
  if x5 < 0 ∨ 60 ≤ Int32.toNatClampNeg x5 then none else
  if (wt_ga s.2 126 (Int32.toNatClampNeg x5)) ≤ s.1 then
    K34 ((x4 + (1 : Int32)), s.2)
  else
    if x5 < 0 ∨ 60 ≤ Int32.toNatClampNeg x5 then none else
    if s.1 < 0 ∨ 9 ≤ Int32.toNatClampNeg s.1 then none else
    if (wt_ga s.2 (193 + Int32.toNatClampNeg x5) (Int32.toNatClampNeg s.1)) < 0 ∨ 26 ≤ Int32.toNatClampNeg (wt_ga s.2 (193 + Int32.toNatClampNeg x5) (Int32.toNatClampNeg s.1)) then none else
    (wp_md_pieceOn n x1 (wt_ga s.2 (193 + Int32.toNatClampNeg x5) (Int32.toNatClampNeg s.1)) (wt_ga s.2 290 (Int32.toNatClampNeg (wt_ga s.2 (193 + Int32.toNatClampNeg x5) (Int32.toNatClampNeg s.1)))) s.2).bind fun q24 =>
    if (wt_ga s.2 (193 + Int32.toNatClampNeg x5) (Int32.toNatClampNeg s.1)) < 0 ∨ 26 ≤ Int32.toNatClampNeg (wt_ga s.2 (193 + Int32.toNatClampNeg x5) (Int32.toNatClampNeg s.1)) then none else
    if (wt_ga s.2 (193 + Int32.toNatClampNeg x5) (Int32.toNatClampNeg s.1)) < 0 ∨ 26 ≤ Int32.toNatClampNeg (wt_ga s.2 (193 + Int32.toNatClampNeg x5) (Int32.toNatClampNeg s.1)) then none else
    if q24.1 < 0 ∨ 338 ≤ Int32.toNatClampNeg q24.1 then none else
    if (wt_gf (wt_sa q24.2 290 (Int32.toNatClampNeg (wt_ga s.2 (193 + Int32.toNatClampNeg x5) (Int32.toNatClampNeg s.1))) ((wt_ga q24.2 290 (Int32.toNatClampNeg (wt_ga s.2 (193 + Int32.toNatClampNeg x5) (Int32.toNatClampNeg s.1)))) + (1 : Int32))) 108 25) ≤ (wt_ga (wt_sa q24.2 290 (Int32.toNatClampNeg (wt_ga s.2 (193 + Int32.toNatClampNeg x5) (Int32.toNatClampNeg s.1))) ((wt_ga q24.2 290 (Int32.toNatClampNeg (wt_ga s.2 (193 + Int32.toNatClampNeg x5) (Int32.toNatClampNeg s.1)))) + (1 : Int32))) 121 (Int32.toNatClampNeg q24.1)) then
      wp_md_readOf_B146 n x1 x2 x3 x4 x5 s.1 (wt_ga s.2 (193 + Int32.toNatClampNeg x5) (Int32.toNatClampNeg s.1)) K34 K54 289 s.1 (wt_sa q24.2 290 (Int32.toNatClampNeg (wt_ga s.2 (193 + Int32.toNatClampNeg x5) (Int32.toNatClampNeg s.1))) ((wt_ga q24.2 290 (Int32.toNatClampNeg (wt_ga s.2 (193 + Int32.toNatClampNeg x5) (Int32.toNatClampNeg s.1)))) + (1 : Int32)))
    else
      if (wt_ga s.2 (193 + Int32.toNatClampNeg x5) (Int32.toNatClampNeg s.1)) < 0 ∨ 26 ≤ Int32.toNatClampNeg (wt_ga s.2 (193 + Int32.toNatClampNeg x5) (Int32.toNatClampNeg s.1)) then none else
      if (wt_ga (wt_sa q24.2 290 (Int32.toNatClampNeg (wt_ga s.2 (193 + Int32.toNatClampNeg x5) (Int32.toNatClampNeg s.1))) ((wt_ga q24.2 290 (Int32.toNatClampNeg (wt_ga s.2 (193 + Int32.toNatClampNeg x5) (Int32.toNatClampNeg s.1)))) + (1 : Int32))) 117 (Int32.toNatClampNeg (wt_ga s.2 (193 + Int32.toNatClampNeg x5) (Int32.toNatClampNeg s.1)))) = (-1 : Int32) then
        wp_md_readOf_B146 n x1 x2 x3 x4 x5 s.1 (wt_ga s.2 (193 + Int32.toNatClampNeg x5) (Int32.toNatClampNeg s.1)) K34 K54 289 s.1 (wt_sa q24.2 290 (Int32.toNatClampNeg (wt_ga s.2 (193 + Int32.toNatClampNeg x5) (Int32.toNatClampNeg s.1))) ((wt_ga q24.2 290 (Int32.toNatClampNeg (wt_ga s.2 (193 + Int32.toNatClampNeg x5) (Int32.toNatClampNeg s.1)))) + (1 : Int32)))
      else
        if (wt_ga s.2 (193 + Int32.toNatClampNeg x5) (Int32.toNatClampNeg s.1)) < 0 ∨ 26 ≤ Int32.toNatClampNeg (wt_ga s.2 (193 + Int32.toNatClampNeg x5) (Int32.toNatClampNeg s.1)) then none else
        wp_md_readOf_B148 n x1 x2 x3 x4 x5 s.1 K34 K54 289 s.1 (wt_ga (wt_sa q24.2 290 (Int32.toNatClampNeg (wt_ga s.2 (193 + Int32.toNatClampNeg x5) (Int32.toNatClampNeg s.1))) ((wt_ga q24.2 290 (Int32.toNatClampNeg (wt_ga s.2 (193 + Int32.toNatClampNeg x5) (Int32.toNatClampNeg s.1)))) + (1 : Int32))) 117 (Int32.toNatClampNeg (wt_ga s.2 (193 + Int32.toNatClampNeg x5) (Int32.toNatClampNeg s.1)))) (wt_sa q24.2 290 (Int32.toNatClampNeg (wt_ga s.2 (193 + Int32.toNatClampNeg x5) (Int32.toNatClampNeg s.1))) ((wt_ga q24.2 290 (Int32.toNatClampNeg (wt_ga s.2 (193 + Int32.toNatClampNeg x5) (Int32.toNatClampNeg s.1)))) + (1 : Int32)))
set_option maxRecDepth 100000 in
set_option maxHeartbeats 4000000 in
theorem wp_md_readOf_B54_ok  {x1 : Int32} {x2 : Int32} {x3 : Int32} {x4 : Int32} {x5 : Int32} {X : wt_X} {n : Nat} {res : Int32 × wt_St} (hE : wt_Ok X prog_13_method_60_code 9 "WornTypeModel" 1 0) (hR : wt_Rt X (some .int) (some res.1) res.2) (hD : ∀ i, 108 ≤ i → i < 321 → wt_dom (wt_xw X) i)  {K34 : Int32 × wt_St → Option (Int32 × wt_St)} (hK34 : ∀ s : Int32 × wt_St, K34 s = some res → wt_V X 0 s.2 34 [some (.ref (wt_ad (wt_xw X) 108)), some (.int x1), some (.int x2), some (.int x3), some (.int s.1), none, none, none, none] []) {K54 : Int32 × wt_St → Option (Int32 × wt_St)} (hK54 : ∀ s : Int32 × wt_St, K54 s = some res → wt_V X 0 s.2 54 [some (.ref (wt_ad (wt_xw X) 108)), some (.int x1), some (.int x2), some (.int x3), some (.int x4), some (.int x5), some (.int s.1), none, none] []) {s : Int32 × wt_St} (h : wp_md_readOf_B54 n x1 x2 x3 x4 x5 K34 K54 s = some res) : wt_V X 0 s.2 54 [some (.ref (wt_ad (wt_xw X) 108)), some (.int x1), some (.int x2), some (.int x3), some (.int x4), some (.int x5), some (.int s.1), none, none] [] := by
  unfold wp_md_readOf_B54 at h
  refine wt_iload hE wp_md_readOf_d54 rfl ?_
  refine wt_aload_n hE wp_md_readOf_d56 rfl ?_
  refine wt_getr hE (r := 126) wt_lf_md_65 (hD 108 (by decide) (by decide)) wt_L108 rfl wp_md_readOf_d57 ?_
  refine wt_iload hE wp_md_readOf_d60 rfl ?_
  obtain ⟨g19, h⟩ := wt_gd h
  refine wt_iald hE (hD 126 (by decide) (by decide)) wt_L126 g19 wp_md_readOf_d62 ?_
  refine wt_icmp_ge hE 155 wp_md_readOf_d63 rfl (fun c20 => ?_) (fun c20 => ?_)
  · have h := wt_ip c20 h
    refine wt_iinc hE (x4 + (1 : Int32)) [some (.ref (wt_ad (wt_xw X) 108)), some (.int x1), some (.int x2), some (.int x3), some (.int (x4 + (1 : Int32))), some (.int x5), some (.int s.1), none, none] wp_md_readOf_d155 (by decide) rfl rfl rfl ?_
    refine wt_goto hE 34 wp_md_readOf_d158 rfl ?_
    refine wt_wk [true, true, true, true, true, false, false, true, true] rfl ?_
    exact hK34 ((x4 + (1 : Int32)), s.2) h
  · have h := wt_in c20 h
    refine wt_aload_n hE wp_md_readOf_d66 rfl ?_
    refine wt_getr hE (r := 192) wt_lf_md_85 (hD 108 (by decide) (by decide)) wt_L108 rfl wp_md_readOf_d67 ?_
    refine wt_iload hE wp_md_readOf_d70 rfl ?_
    obtain ⟨g21, h⟩ := wt_gd h
    have lg21 := wt_lt g21
    refine wt_aald1 hE (hD 192 (by decide) (by decide)) wt_L192 g21 wp_md_readOf_d72 ?_
    refine wt_iload hE wp_md_readOf_d73 rfl ?_
    obtain ⟨g22, h⟩ := wt_gd h
    refine wt_iald hE (hD _ (by omega) (by omega)) (wt_G193 _ lg21) g22 wp_md_readOf_d75 ?_
    refine wt_istore hE [some (.ref (wt_ad (wt_xw X) 108)), some (.int x1), some (.int x2), some (.int x3), some (.int x4), some (.int x5), some (.int s.1), some (.int (wt_ga s.2 (193 + Int32.toNatClampNeg x5) (Int32.toNatClampNeg s.1))), none] wp_md_readOf_d76 (Nat.le_of_ble_eq_true rfl) rfl ?_
    refine wt_aload_n hE wp_md_readOf_d78 rfl ?_
    refine wt_iload_n hE wp_md_readOf_d79 rfl ?_
    refine wt_iload hE wp_md_readOf_d80 rfl ?_
    refine wt_aload_n hE wp_md_readOf_d82 rfl ?_
    refine wt_getr hE (r := 290) wt_lf_md_124 (hD 108 (by decide) (by decide)) wt_L108 rfl wp_md_readOf_d83 ?_
    refine wt_iload hE wp_md_readOf_d86 rfl ?_
    obtain ⟨g23, h⟩ := wt_gd h
    refine wt_iald hE (hD 290 (by decide) (by decide)) wt_L290 g23 wp_md_readOf_d88 ?_
    obtain ⟨q24, hq24, h⟩ := wt_bi h
    refine wt_callVi hE [.int x1, .int (wt_ga s.2 (193 + Int32.toNatClampNeg x5) (Int32.toNatClampNeg s.1)), .int (wt_ga s.2 290 (Int32.toNatClampNeg (wt_ga s.2 (193 + Int32.toNatClampNeg x5) (Int32.toNatClampNeg s.1))))] wt_lm_md_332 wt_ya_md_pieceOn (wp_md_pieceOn_ok hD hq24) (by omega) (hD 108 (by decide) (by decide)) wt_L108 rfl rfl rfl (Nat.le_of_ble_eq_true rfl) (Nat.zero_le _) wp_md_readOf_d89 (fun hbq24 => ?_)
    refine wt_istore hE [some (.ref (wt_ad (wt_xw X) 108)), some (.int x1), some (.int x2), some (.int x3), some (.int x4), some (.int x5), some (.int s.1), some (.int (wt_ga s.2 (193 + Int32.toNatClampNeg x5) (Int32.toNatClampNeg s.1))), some (.int q24.1)] wp_md_readOf_d92 (Nat.le_of_ble_eq_true rfl) rfl ?_
    refine wt_aload_n hE wp_md_readOf_d94 rfl ?_
    refine wt_getr hE (r := 290) wt_lf_md_124 (hD 108 (by decide) (by decide)) wt_L108 rfl wp_md_readOf_d95 ?_
    refine wt_iload hE wp_md_readOf_d98 rfl ?_
    refine wt_dup2 hE wp_md_readOf_d100 rfl rfl ?_
    obtain ⟨g25, h⟩ := wt_gd h
    refine wt_iald hE (hD 290 (by decide) (by decide)) wt_L290 g25 wp_md_readOf_d101 ?_
    refine wt_iconst hE (1 : Int32) wp_md_readOf_d102 wt_ci_1 ?_
    refine wt_iadd hE wp_md_readOf_d103 ?_
    obtain ⟨g26, h⟩ := wt_gd h
    refine wt_iast hE (hD 290 (by decide) (by decide)) wt_L290 g26 wp_md_readOf_d104 ?_
    refine wt_aload_n hE wp_md_readOf_d105 rfl ?_
    refine wt_getr hE (r := 289) wt_lf_md_121 (hD 108 (by decide) (by decide)) wt_L108 rfl wp_md_readOf_d106 ?_
    refine wt_iload hE wp_md_readOf_d109 rfl ?_
    refine wt_aload_n hE wp_md_readOf_d111 rfl ?_
    refine wt_getr hE (r := 121) wt_lf_md_50 (hD 108 (by decide) (by decide)) wt_L108 rfl wp_md_readOf_d112 ?_
    refine wt_iload hE wp_md_readOf_d115 rfl ?_
    obtain ⟨g27, h⟩ := wt_gd h
    refine wt_iald hE (hD 121 (by decide) (by decide)) wt_L121 g27 wp_md_readOf_d117 ?_
    refine wt_aload_n hE wp_md_readOf_d118 rfl ?_
    refine wt_geti hE wt_lf_md_202 (hD 108 (by decide) (by decide)) wt_L108 rfl wp_md_readOf_d119 ?_
    refine wt_icmp_ge hE 146 wp_md_readOf_d122 rfl (fun c28 => ?_) (fun c28 => ?_)
    · have h := wt_ip c28 h
      refine wt_wk [true, true, true, true, true, true, true, true, false] rfl ?_
      exact wp_md_readOf_B146_ok hE hR hD wt_L289 (hD 289 (by decide) (by decide)) hK34 hK54 h
    · have h := wt_in c28 h
      refine wt_aload_n hE wp_md_readOf_d125 rfl ?_
      refine wt_getr hE (r := 117) wt_lf_md_38 (hD 108 (by decide) (by decide)) wt_L108 rfl wp_md_readOf_d126 ?_
      refine wt_iload hE wp_md_readOf_d129 rfl ?_
      obtain ⟨g30, h⟩ := wt_gd h
      refine wt_iald hE (hD 117 (by decide) (by decide)) wt_L117 g30 wp_md_readOf_d131 ?_
      refine wt_iconst hE (-1 : Int32) wp_md_readOf_d132 wt_ci_m1 ?_
      refine wt_icmp_eq hE 146 wp_md_readOf_d133 rfl (fun c31 => ?_) (fun c31 => ?_)
      · have h := wt_ip c31 h
        refine wt_wk [true, true, true, true, true, true, true, true, false] rfl ?_
        exact wp_md_readOf_B146_ok hE hR hD wt_L289 (hD 289 (by decide) (by decide)) hK34 hK54 h
      · have h := wt_in c31 h
        refine wt_aload_n hE wp_md_readOf_d136 rfl ?_
        refine wt_getr hE (r := 117) wt_lf_md_38 (hD 108 (by decide) (by decide)) wt_L108 rfl wp_md_readOf_d137 ?_
        refine wt_iload hE wp_md_readOf_d140 rfl ?_
        obtain ⟨g32, h⟩ := wt_gd h
        refine wt_iald hE (hD 117 (by decide) (by decide)) wt_L117 g32 wp_md_readOf_d142 ?_
        refine wt_goto hE 148 wp_md_readOf_d143 rfl ?_
        refine wt_wk [true, true, true, true, true, true, true, false, false] rfl ?_
        exact wp_md_readOf_B148_ok hE hR hD wt_L289 (hD 289 (by decide) (by decide)) hK34 hK54 h
noncomputable def wp_md_readOf_B34 (n : Nat) (x1 : Int32) (x2 : Int32) (x3 : Int32) (K34 : Int32 × wt_St → Option (Int32 × wt_St)) (s : Int32 × wt_St) : Option (Int32 × wt_St) :=
  if x2 < s.1 then
    if x3 < 0 ∨ 8 ≤ Int32.toNatClampNeg x3 then none else
    if x2 < 0 ∨ 12 ≤ Int32.toNatClampNeg x2 then none else
    if (wt_ga s.2 (255 + Int32.toNatClampNeg x3) (Int32.toNatClampNeg x2)) < 0 ∨ 60 ≤ Int32.toNatClampNeg (wt_ga s.2 (255 + Int32.toNatClampNeg x3) (Int32.toNatClampNeg x2)) then none else
    wt_it (wp_md_readOf_B179 n (wt_ga s.2 126 (Int32.toNatClampNeg (wt_ga s.2 (255 + Int32.toNatClampNeg x3) (Int32.toNatClampNeg x2))))) n ((0 : Int32), s.2)
  else
    if x3 < 0 ∨ 8 ≤ Int32.toNatClampNeg x3 then none else
    if s.1 < 0 ∨ 12 ≤ Int32.toNatClampNeg s.1 then none else
    wt_it (wp_md_readOf_B54 n x1 x2 x3 s.1 (wt_ga s.2 (255 + Int32.toNatClampNeg x3) (Int32.toNatClampNeg s.1)) K34) n ((0 : Int32), s.2)
set_option maxRecDepth 100000 in
set_option maxHeartbeats 4000000 in
theorem wp_md_readOf_B34_ok  {x1 : Int32} {x2 : Int32} {x3 : Int32} {X : wt_X} {n : Nat} {res : Int32 × wt_St} (hE : wt_Ok X prog_13_method_60_code 9 "WornTypeModel" 1 0) (hR : wt_Rt X (some .int) (some res.1) res.2) (hD : ∀ i, 108 ≤ i → i < 321 → wt_dom (wt_xw X) i)  {K34 : Int32 × wt_St → Option (Int32 × wt_St)} (hK34 : ∀ s : Int32 × wt_St, K34 s = some res → wt_V X 0 s.2 34 [some (.ref (wt_ad (wt_xw X) 108)), some (.int x1), some (.int x2), some (.int x3), some (.int s.1), none, none, none, none] []) {s : Int32 × wt_St} (h : wp_md_readOf_B34 n x1 x2 x3 K34 s = some res) : wt_V X 0 s.2 34 [some (.ref (wt_ad (wt_xw X) 108)), some (.int x1), some (.int x2), some (.int x3), some (.int s.1), none, none, none, none] [] := by
  unfold wp_md_readOf_B34 at h
  refine wt_iload hE wp_md_readOf_d34 rfl ?_
  refine wt_iload_n hE wp_md_readOf_d36 rfl ?_
  refine wt_icmp_gt hE 161 wp_md_readOf_d37 rfl (fun c3 => ?_) (fun c3 => ?_)
  · have h := wt_ip c3 h
    refine wt_aload_n hE wp_md_readOf_d161 rfl ?_
    refine wt_getr hE (r := 126) wt_lf_md_65 (hD 108 (by decide) (by decide)) wt_L108 rfl wp_md_readOf_d162 ?_
    refine wt_aload_n hE wp_md_readOf_d165 rfl ?_
    refine wt_getr hE (r := 254) wt_lf_md_91 (hD 108 (by decide) (by decide)) wt_L108 rfl wp_md_readOf_d166 ?_
    refine wt_iload_n hE wp_md_readOf_d169 rfl ?_
    obtain ⟨g4, h⟩ := wt_gd h
    have lg4 := wt_lt g4
    refine wt_aald1 hE (hD 254 (by decide) (by decide)) wt_L254 g4 wp_md_readOf_d170 ?_
    refine wt_iload_n hE wp_md_readOf_d171 rfl ?_
    obtain ⟨g5, h⟩ := wt_gd h
    refine wt_iald hE (hD _ (by omega) (by omega)) (wt_G255 _ lg4) g5 wp_md_readOf_d172 ?_
    obtain ⟨g6, h⟩ := wt_gd h
    refine wt_iald hE (hD 126 (by decide) (by decide)) wt_L126 g6 wp_md_readOf_d173 ?_
    refine wt_istore hE [some (.ref (wt_ad (wt_xw X) 108)), some (.int x1), some (.int x2), some (.int x3), some (.int (wt_ga s.2 126 (Int32.toNatClampNeg (wt_ga s.2 (255 + Int32.toNatClampNeg x3) (Int32.toNatClampNeg x2))))), none, none, none, none] wp_md_readOf_d174 (Nat.le_of_ble_eq_true rfl) rfl ?_
    refine wt_iconst hE (0 : Int32) wp_md_readOf_d176 wt_ci_0 ?_
    refine wt_istore hE [some (.ref (wt_ad (wt_xw X) 108)), some (.int x1), some (.int x2), some (.int x3), some (.int (wt_ga s.2 126 (Int32.toNatClampNeg (wt_ga s.2 (255 + Int32.toNatClampNeg x3) (Int32.toNatClampNeg x2))))), some (.int (0 : Int32)), none, none, none] wp_md_readOf_d177 (Nat.le_of_ble_eq_true rfl) rfl ?_
    refine wt_wk [true, false, false, false, true, true, true, true, true] rfl ?_
    exact wt_it_ind (fun z => wt_V X 0 z.2 179 [some (.ref (wt_ad (wt_xw X) 108)), none, none, none, some (.int (wt_ga s.2 126 (Int32.toNatClampNeg (wt_ga s.2 (255 + Int32.toNatClampNeg x3) (Int32.toNatClampNeg x2))))), some (.int z.1), none, none, none] []) (fun K hK z h => wp_md_readOf_B179_ok hE hR hD hK h) n ((0 : Int32), s.2) h
  · have h := wt_in c3 h
    refine wt_aload_n hE wp_md_readOf_d40 rfl ?_
    refine wt_getr hE (r := 254) wt_lf_md_91 (hD 108 (by decide) (by decide)) wt_L108 rfl wp_md_readOf_d41 ?_
    refine wt_iload_n hE wp_md_readOf_d44 rfl ?_
    obtain ⟨g17, h⟩ := wt_gd h
    have lg17 := wt_lt g17
    refine wt_aald1 hE (hD 254 (by decide) (by decide)) wt_L254 g17 wp_md_readOf_d45 ?_
    refine wt_iload hE wp_md_readOf_d46 rfl ?_
    obtain ⟨g18, h⟩ := wt_gd h
    refine wt_iald hE (hD _ (by omega) (by omega)) (wt_G255 _ lg17) g18 wp_md_readOf_d48 ?_
    refine wt_istore hE [some (.ref (wt_ad (wt_xw X) 108)), some (.int x1), some (.int x2), some (.int x3), some (.int s.1), some (.int (wt_ga s.2 (255 + Int32.toNatClampNeg x3) (Int32.toNatClampNeg s.1))), none, none, none] wp_md_readOf_d49 (Nat.le_of_ble_eq_true rfl) rfl ?_
    refine wt_iconst hE (0 : Int32) wp_md_readOf_d51 wt_ci_0 ?_
    refine wt_istore hE [some (.ref (wt_ad (wt_xw X) 108)), some (.int x1), some (.int x2), some (.int x3), some (.int s.1), some (.int (wt_ga s.2 (255 + Int32.toNatClampNeg x3) (Int32.toNatClampNeg s.1))), some (.int (0 : Int32)), none, none] wp_md_readOf_d52 (Nat.le_of_ble_eq_true rfl) rfl ?_
    exact wt_it_ind (fun z => wt_V X 0 z.2 54 [some (.ref (wt_ad (wt_xw X) 108)), some (.int x1), some (.int x2), some (.int x3), some (.int s.1), some (.int (wt_ga s.2 (255 + Int32.toNatClampNeg x3) (Int32.toNatClampNeg s.1))), some (.int z.1), none, none] []) (fun K hK z h => wp_md_readOf_B54_ok hE hR hD hK34 hK h) n ((0 : Int32), s.2) h
noncomputable def wp_md_readOf_B10 (n : Nat) (x1 : Int32) (x2 : Int32) (x3 : Int32) (K10 : Int32 × wt_St → Option (Int32 × wt_St)) (s : Int32 × wt_St) : Option (Int32 × wt_St) :=
  if (26 : Int32) ≤ s.1 then
    wt_it (wp_md_readOf_B34 n x1 x2 x3) n ((0 : Int32), s.2)
  else
    if s.1 < 0 ∨ 26 ≤ Int32.toNatClampNeg s.1 then none else
    K10 ((s.1 + (1 : Int32)), (wt_sa s.2 290 (Int32.toNatClampNeg s.1) (0 : Int32)))
set_option maxRecDepth 100000 in
set_option maxHeartbeats 4000000 in
theorem wp_md_readOf_B10_ok  {x1 : Int32} {x2 : Int32} {x3 : Int32} {X : wt_X} {n : Nat} {res : Int32 × wt_St} (hE : wt_Ok X prog_13_method_60_code 9 "WornTypeModel" 1 0) (hR : wt_Rt X (some .int) (some res.1) res.2) (hD : ∀ i, 108 ≤ i → i < 321 → wt_dom (wt_xw X) i)  {K10 : Int32 × wt_St → Option (Int32 × wt_St)} (hK10 : ∀ s : Int32 × wt_St, K10 s = some res → wt_V X 0 s.2 10 [some (.ref (wt_ad (wt_xw X) 108)), some (.int x1), some (.int x2), some (.int x3), some (.int s.1), none, none, none, none] []) {s : Int32 × wt_St} (h : wp_md_readOf_B10 n x1 x2 x3 K10 s = some res) : wt_V X 0 s.2 10 [some (.ref (wt_ad (wt_xw X) 108)), some (.int x1), some (.int x2), some (.int x3), some (.int s.1), none, none, none, none] [] := by
  unfold wp_md_readOf_B10 at h
  refine wt_iload hE wp_md_readOf_d10 rfl ?_
  refine wt_bipush hE (26 : Int32) wp_md_readOf_d12 wt_cb_26 ?_
  refine wt_icmp_ge hE 31 wp_md_readOf_d14 rfl (fun c2 => ?_) (fun c2 => ?_)
  · have h := wt_ip c2 h
    refine wt_iconst hE (0 : Int32) wp_md_readOf_d31 wt_ci_0 ?_
    refine wt_istore hE [some (.ref (wt_ad (wt_xw X) 108)), some (.int x1), some (.int x2), some (.int x3), some (.int (0 : Int32)), none, none, none, none] wp_md_readOf_d32 (Nat.le_of_ble_eq_true rfl) rfl ?_
    exact wt_it_ind (fun z => wt_V X 0 z.2 34 [some (.ref (wt_ad (wt_xw X) 108)), some (.int x1), some (.int x2), some (.int x3), some (.int z.1), none, none, none, none] []) (fun K hK z h => wp_md_readOf_B34_ok hE hR hD hK h) n ((0 : Int32), s.2) h
  · have h := wt_in c2 h
    refine wt_aload_n hE wp_md_readOf_d17 rfl ?_
    refine wt_getr hE (r := 290) wt_lf_md_124 (hD 108 (by decide) (by decide)) wt_L108 rfl wp_md_readOf_d18 ?_
    refine wt_iload hE wp_md_readOf_d21 rfl ?_
    refine wt_iconst hE (0 : Int32) wp_md_readOf_d23 wt_ci_0 ?_
    obtain ⟨g33, h⟩ := wt_gd h
    refine wt_iast hE (hD 290 (by decide) (by decide)) wt_L290 g33 wp_md_readOf_d24 ?_
    refine wt_iinc hE (s.1 + (1 : Int32)) [some (.ref (wt_ad (wt_xw X) 108)), some (.int x1), some (.int x2), some (.int x3), some (.int (s.1 + (1 : Int32))), none, none, none, none] wp_md_readOf_d25 (by decide) rfl rfl rfl ?_
    refine wt_goto hE 10 wp_md_readOf_d28 rfl ?_
    exact hK10 ((s.1 + (1 : Int32)), (wt_sa s.2 290 (Int32.toNatClampNeg s.1) (0 : Int32))) h
noncomputable def wp_md_readOf (n : Nat) (x1 : Int32) (x2 : Int32) (σ : wt_St) : Option (Int32 × wt_St) :=
  if x1 < 0 ∨ 4 ≤ Int32.toNatClampNeg x1 then none else
  wt_it (wp_md_readOf_B10 n x1 x2 (wt_ga σ 275 (Int32.toNatClampNeg x1))) n ((0 : Int32), σ)
set_option maxRecDepth 100000 in
set_option maxHeartbeats 4000000 in
theorem wp_md_readOf_ok {l : Launch} {w : wt_E} {n : Nat} {x1 : Int32} {x2 : Int32} (hD : ∀ i, 108 ≤ i → i < 321 → wt_dom w i) {σ : wt_St} {q : Int32 × wt_St} (h : wp_md_readOf n x1 x2 σ = some q) : wt_Ctr l w wt_y_md_readOf prog_13_method_60_code 9 (some .int) 1 [.ref (wt_ad w 108), .int x1, .int x2] σ (some q.1) q.2 := by
  refine wt_ctr wt_pl_md_readOf rfl (Nat.le_of_ble_eq_true rfl) [some (.ref (wt_ad w 108)), some (.int x1), some (.int x2), none, none, none, none, none, none] rfl ?_
  intro X hXl hXw hE hR
  subst hXl
  subst hXw
  have hE : wt_Ok X prog_13_method_60_code 9 "WornTypeModel" 1 0 := hE
  unfold wp_md_readOf at h
  refine wt_aload_n hE wp_md_readOf_d0 rfl ?_
  refine wt_getr hE (r := 275) wt_lf_md_100 (hD 108 (by decide) (by decide)) wt_L108 rfl wp_md_readOf_d1 ?_
  refine wt_iload_n hE wp_md_readOf_d4 rfl ?_
  obtain ⟨g1, h⟩ := wt_gd h
  refine wt_iald hE (hD 275 (by decide) (by decide)) wt_L275 g1 wp_md_readOf_d5 ?_
  refine wt_istore_n hE [some (.ref (wt_ad (wt_xw X) 108)), some (.int x1), some (.int x2), some (.int (wt_ga σ 275 (Int32.toNatClampNeg x1))), none, none, none, none, none] wp_md_readOf_d6 (by decide) rfl ?_
  refine wt_iconst hE (0 : Int32) wp_md_readOf_d7 wt_ci_0 ?_
  refine wt_istore hE [some (.ref (wt_ad (wt_xw X) 108)), some (.int x1), some (.int x2), some (.int (wt_ga σ 275 (Int32.toNatClampNeg x1))), some (.int (0 : Int32)), none, none, none, none] wp_md_readOf_d8 (Nat.le_of_ble_eq_true rfl) rfl ?_
  exact wt_it_ind (fun z => wt_V X 0 z.2 10 [some (.ref (wt_ad (wt_xw X) 108)), some (.int x1), some (.int x2), some (.int (wt_ga σ 275 (Int32.toNatClampNeg x1))), some (.int z.1), none, none, none, none] []) (fun K hK z h => wp_md_readOf_B10_ok hE hR hD hK h) n ((0 : Int32), σ) h
def wb18m8_prog_13_method_62_code_r7 : List (List Nat) := [167, 255, 200, 29, 172] :: []
def wb18m8_prog_13_method_62_code_r6 : List (List Nat) := [182, 1, 80, 42, 180, 0, 91, 42, 180, 0, 100, 27, 46, 50, 21, 4, 46, 160, 0, 7, 3, 167, 0, 4, 4, 96, 62, 132, 4, 1] :: wb18m8_prog_13_method_62_code_r7
def wb18m8_prog_13_method_62_code_r5 : List (List Nat) := [3, 54, 4, 21, 4, 42, 180, 0, 88, 42, 180, 0, 100, 27, 46, 46, 162, 0, 46, 28, 7, 160, 0, 41, 29, 42, 27, 21, 4] :: wb18m8_prog_13_method_62_code_r6
def wb18m8_prog_13_method_62_code_r4 : List (List Nat) := [180, 0, 106, 27, 50, 21, 4, 46, 46, 42, 180, 0, 202, 162, 0, 7, 4, 167, 0, 4, 3, 96, 62, 132, 4, 1, 167, 255, 208] :: wb18m8_prog_13_method_62_code_r5
def wb18m8_prog_13_method_62_code_r3 : List (List Nat) := [172, 3, 62, 3, 54, 4, 21, 4, 42, 180, 0, 103, 27, 46, 162, 0, 43, 28, 5, 160, 0, 38, 29, 42, 180, 0, 50, 42] :: wb18m8_prog_13_method_62_code_r4
def wb18m8_prog_13_method_62_code_r2 : List (List Nat) := [154, 0, 12, 42, 180, 0, 100, 27, 46, 167, 0, 9, 42, 180, 0, 103, 27, 46, 172, 28, 6, 160, 0, 9, 42, 27, 182, 1, 73] :: wb18m8_prog_13_method_62_code_r3
def wb18m8_prog_13_method_62_code_r1 : List (List Nat) := [3, 7, 184, 0, 185, 154, 0, 7, 4, 167, 0, 4, 3, 5, 182, 0, 230, 153, 0, 5, 3, 172, 28, 5, 162, 0, 23, 28] :: wb18m8_prog_13_method_62_code_r2
def wb18m8_prog_13_method_62_code_r0 : List (List Nat) := [42, 3, 181, 0, 151, 42, 42, 27, 182, 1, 70, 154, 0, 7, 4, 167, 0, 4, 3, 4, 182, 0, 230, 154, 0, 25, 42, 28] :: wb18m8_prog_13_method_62_code_r1
set_option maxRecDepth 100000 in
theorem wb18m8_prog_13_method_62_code_c0 : wt_cs prog_13_method_62_code 0 wb18m8_prog_13_method_62_code_r0 := wt_cs_of (by decide +kernel)
theorem wb18m8_prog_13_method_62_code_c1 : wt_cs prog_13_method_62_code 28 wb18m8_prog_13_method_62_code_r1 := wt_cs_tl (m := 28) wb18m8_prog_13_method_62_code_c0 rfl rfl
theorem wb18m8_prog_13_method_62_code_c2 : wt_cs prog_13_method_62_code 56 wb18m8_prog_13_method_62_code_r2 := wt_cs_tl (m := 28) wb18m8_prog_13_method_62_code_c1 rfl rfl
theorem wb18m8_prog_13_method_62_code_c3 : wt_cs prog_13_method_62_code 85 wb18m8_prog_13_method_62_code_r3 := wt_cs_tl (m := 29) wb18m8_prog_13_method_62_code_c2 rfl rfl
theorem wb18m8_prog_13_method_62_code_c4 : wt_cs prog_13_method_62_code 113 wb18m8_prog_13_method_62_code_r4 := wt_cs_tl (m := 28) wb18m8_prog_13_method_62_code_c3 rfl rfl
theorem wb18m8_prog_13_method_62_code_c5 : wt_cs prog_13_method_62_code 142 wb18m8_prog_13_method_62_code_r5 := wt_cs_tl (m := 29) wb18m8_prog_13_method_62_code_c4 rfl rfl
theorem wb18m8_prog_13_method_62_code_c6 : wt_cs prog_13_method_62_code 171 wb18m8_prog_13_method_62_code_r6 := wt_cs_tl (m := 29) wb18m8_prog_13_method_62_code_c5 rfl rfl
theorem wb18m8_prog_13_method_62_code_c7 : wt_cs prog_13_method_62_code 201 wb18m8_prog_13_method_62_code_r7 := wt_cs_tl (m := 30) wb18m8_prog_13_method_62_code_c6 rfl rfl
theorem wp_md_page_d0 : decode prog_13_method_62_code 0 = .ok (.aload_n 0, 1) := wt_op42 wb18m8_prog_13_method_62_code_c0 0 rfl rfl
theorem wp_md_page_d1 : decode prog_13_method_62_code 1 = .ok (.iconst 0, 1) := wt_op3 wb18m8_prog_13_method_62_code_c0 1 rfl rfl
theorem wp_md_page_d2 : decode prog_13_method_62_code 2 = .ok (.putfield 151, 3) := wt_op181 wb18m8_prog_13_method_62_code_c0 2 rfl rfl rfl
theorem wp_md_page_d5 : decode prog_13_method_62_code 5 = .ok (.aload_n 0, 1) := wt_op42 wb18m8_prog_13_method_62_code_c0 5 rfl rfl
theorem wp_md_page_d6 : decode prog_13_method_62_code 6 = .ok (.aload_n 0, 1) := wt_op42 wb18m8_prog_13_method_62_code_c0 6 rfl rfl
theorem wp_md_page_d7 : decode prog_13_method_62_code 7 = .ok (.iload_n 1, 1) := wt_op27 wb18m8_prog_13_method_62_code_c0 7 rfl rfl
theorem wp_md_page_d8 : decode prog_13_method_62_code 8 = .ok (.invokevirtual 326, 3) := wt_op182 wb18m8_prog_13_method_62_code_c0 8 rfl rfl rfl
theorem wp_md_page_d11 : decode prog_13_method_62_code 11 = .ok (.ifCond .ne 7, 3) := wt_op154 wb18m8_prog_13_method_62_code_c0 11 rfl rfl rfl
theorem wp_md_page_d14 : decode prog_13_method_62_code 14 = .ok (.iconst 1, 1) := wt_op4 wb18m8_prog_13_method_62_code_c0 14 rfl rfl
theorem wp_md_page_d15 : decode prog_13_method_62_code 15 = .ok (.goto 4, 3) := wt_op167 wb18m8_prog_13_method_62_code_c0 15 rfl rfl rfl
theorem wp_md_page_d18 : decode prog_13_method_62_code 18 = .ok (.iconst 0, 1) := wt_op3 wb18m8_prog_13_method_62_code_c0 18 rfl rfl
theorem wp_md_page_d19 : decode prog_13_method_62_code 19 = .ok (.iconst 1, 1) := wt_op4 wb18m8_prog_13_method_62_code_c0 19 rfl rfl
theorem wp_md_page_d20 : decode prog_13_method_62_code 20 = .ok (.invokevirtual 230, 3) := wt_op182 wb18m8_prog_13_method_62_code_c0 20 rfl rfl rfl
theorem wp_md_page_d23 : decode prog_13_method_62_code 23 = .ok (.ifCond .ne 25, 3) := wt_op154 wb18m8_prog_13_method_62_code_c0 23 rfl rfl rfl
theorem wp_md_page_d26 : decode prog_13_method_62_code 26 = .ok (.aload_n 0, 1) := wt_op42 wb18m8_prog_13_method_62_code_c0 26 rfl rfl
theorem wp_md_page_d27 : decode prog_13_method_62_code 27 = .ok (.iload_n 2, 1) := wt_op28 wb18m8_prog_13_method_62_code_c0 27 rfl rfl
theorem wp_md_page_d28 : decode prog_13_method_62_code 28 = .ok (.iconst 0, 1) := wt_op3 wb18m8_prog_13_method_62_code_c1 0 rfl rfl
theorem wp_md_page_d29 : decode prog_13_method_62_code 29 = .ok (.iconst 4, 1) := wt_op7 wb18m8_prog_13_method_62_code_c1 1 rfl rfl
theorem wp_md_page_d30 : decode prog_13_method_62_code 30 = .ok (.invokestatic 185, 3) := wt_op184 wb18m8_prog_13_method_62_code_c1 2 rfl rfl rfl
theorem wp_md_page_d33 : decode prog_13_method_62_code 33 = .ok (.ifCond .ne 7, 3) := wt_op154 wb18m8_prog_13_method_62_code_c1 5 rfl rfl rfl
theorem wp_md_page_d36 : decode prog_13_method_62_code 36 = .ok (.iconst 1, 1) := wt_op4 wb18m8_prog_13_method_62_code_c1 8 rfl rfl
theorem wp_md_page_d37 : decode prog_13_method_62_code 37 = .ok (.goto 4, 3) := wt_op167 wb18m8_prog_13_method_62_code_c1 9 rfl rfl rfl
theorem wp_md_page_d40 : decode prog_13_method_62_code 40 = .ok (.iconst 0, 1) := wt_op3 wb18m8_prog_13_method_62_code_c1 12 rfl rfl
theorem wp_md_page_d41 : decode prog_13_method_62_code 41 = .ok (.iconst 2, 1) := wt_op5 wb18m8_prog_13_method_62_code_c1 13 rfl rfl
theorem wp_md_page_d42 : decode prog_13_method_62_code 42 = .ok (.invokevirtual 230, 3) := wt_op182 wb18m8_prog_13_method_62_code_c1 14 rfl rfl rfl
theorem wp_md_page_d45 : decode prog_13_method_62_code 45 = .ok (.ifCond .eq 5, 3) := wt_op153 wb18m8_prog_13_method_62_code_c1 17 rfl rfl rfl
theorem wp_md_page_d48 : decode prog_13_method_62_code 48 = .ok (.iconst 0, 1) := wt_op3 wb18m8_prog_13_method_62_code_c1 20 rfl rfl
theorem wp_md_page_d49 : decode prog_13_method_62_code 49 = .ok (.ireturn, 1) := wt_op172 wb18m8_prog_13_method_62_code_c1 21 rfl rfl
theorem wp_md_page_d50 : decode prog_13_method_62_code 50 = .ok (.iload_n 2, 1) := wt_op28 wb18m8_prog_13_method_62_code_c1 22 rfl rfl
theorem wp_md_page_d51 : decode prog_13_method_62_code 51 = .ok (.iconst 2, 1) := wt_op5 wb18m8_prog_13_method_62_code_c1 23 rfl rfl
theorem wp_md_page_d52 : decode prog_13_method_62_code 52 = .ok (.if_icmp .ge 23, 3) := wt_op162 wb18m8_prog_13_method_62_code_c1 24 rfl rfl rfl
theorem wp_md_page_d55 : decode prog_13_method_62_code 55 = .ok (.iload_n 2, 1) := wt_op28 wb18m8_prog_13_method_62_code_c1 27 rfl rfl
theorem wp_md_page_d56 : decode prog_13_method_62_code 56 = .ok (.ifCond .ne 12, 3) := wt_op154 wb18m8_prog_13_method_62_code_c2 0 rfl rfl rfl
theorem wp_md_page_d59 : decode prog_13_method_62_code 59 = .ok (.aload_n 0, 1) := wt_op42 wb18m8_prog_13_method_62_code_c2 3 rfl rfl
theorem wp_md_page_d60 : decode prog_13_method_62_code 60 = .ok (.getfield 100, 3) := wt_op180 wb18m8_prog_13_method_62_code_c2 4 rfl rfl rfl
theorem wp_md_page_d63 : decode prog_13_method_62_code 63 = .ok (.iload_n 1, 1) := wt_op27 wb18m8_prog_13_method_62_code_c2 7 rfl rfl
theorem wp_md_page_d64 : decode prog_13_method_62_code 64 = .ok (.iaload, 1) := wt_op46 wb18m8_prog_13_method_62_code_c2 8 rfl rfl
theorem wp_md_page_d65 : decode prog_13_method_62_code 65 = .ok (.goto 9, 3) := wt_op167 wb18m8_prog_13_method_62_code_c2 9 rfl rfl rfl
theorem wp_md_page_d68 : decode prog_13_method_62_code 68 = .ok (.aload_n 0, 1) := wt_op42 wb18m8_prog_13_method_62_code_c2 12 rfl rfl
theorem wp_md_page_d69 : decode prog_13_method_62_code 69 = .ok (.getfield 103, 3) := wt_op180 wb18m8_prog_13_method_62_code_c2 13 rfl rfl rfl
theorem wp_md_page_d72 : decode prog_13_method_62_code 72 = .ok (.iload_n 1, 1) := wt_op27 wb18m8_prog_13_method_62_code_c2 16 rfl rfl
theorem wp_md_page_d73 : decode prog_13_method_62_code 73 = .ok (.iaload, 1) := wt_op46 wb18m8_prog_13_method_62_code_c2 17 rfl rfl
theorem wp_md_page_d74 : decode prog_13_method_62_code 74 = .ok (.ireturn, 1) := wt_op172 wb18m8_prog_13_method_62_code_c2 18 rfl rfl
theorem wp_md_page_d75 : decode prog_13_method_62_code 75 = .ok (.iload_n 2, 1) := wt_op28 wb18m8_prog_13_method_62_code_c2 19 rfl rfl
theorem wp_md_page_d76 : decode prog_13_method_62_code 76 = .ok (.iconst 3, 1) := wt_op6 wb18m8_prog_13_method_62_code_c2 20 rfl rfl
theorem wp_md_page_d77 : decode prog_13_method_62_code 77 = .ok (.if_icmp .ne 9, 3) := wt_op160 wb18m8_prog_13_method_62_code_c2 21 rfl rfl rfl
theorem wp_md_page_d80 : decode prog_13_method_62_code 80 = .ok (.aload_n 0, 1) := wt_op42 wb18m8_prog_13_method_62_code_c2 24 rfl rfl
theorem wp_md_page_d81 : decode prog_13_method_62_code 81 = .ok (.iload_n 1, 1) := wt_op27 wb18m8_prog_13_method_62_code_c2 25 rfl rfl
theorem wp_md_page_d82 : decode prog_13_method_62_code 82 = .ok (.invokevirtual 329, 3) := wt_op182 wb18m8_prog_13_method_62_code_c2 26 rfl rfl rfl
theorem wp_md_page_d85 : decode prog_13_method_62_code 85 = .ok (.ireturn, 1) := wt_op172 wb18m8_prog_13_method_62_code_c3 0 rfl rfl
theorem wp_md_page_d86 : decode prog_13_method_62_code 86 = .ok (.iconst 0, 1) := wt_op3 wb18m8_prog_13_method_62_code_c3 1 rfl rfl
theorem wp_md_page_d87 : decode prog_13_method_62_code 87 = .ok (.istore_n 3, 1) := wt_op62 wb18m8_prog_13_method_62_code_c3 2 rfl rfl
theorem wp_md_page_d88 : decode prog_13_method_62_code 88 = .ok (.iconst 0, 1) := wt_op3 wb18m8_prog_13_method_62_code_c3 3 rfl rfl
theorem wp_md_page_d89 : decode prog_13_method_62_code 89 = .ok (.istore 4, 2) := wt_op54 wb18m8_prog_13_method_62_code_c3 4 rfl rfl
theorem wp_md_page_d91 : decode prog_13_method_62_code 91 = .ok (.iload 4, 2) := wt_op21 wb18m8_prog_13_method_62_code_c3 6 rfl rfl
theorem wp_md_page_d93 : decode prog_13_method_62_code 93 = .ok (.aload_n 0, 1) := wt_op42 wb18m8_prog_13_method_62_code_c3 8 rfl rfl
theorem wp_md_page_d94 : decode prog_13_method_62_code 94 = .ok (.getfield 103, 3) := wt_op180 wb18m8_prog_13_method_62_code_c3 9 rfl rfl rfl
theorem wp_md_page_d97 : decode prog_13_method_62_code 97 = .ok (.iload_n 1, 1) := wt_op27 wb18m8_prog_13_method_62_code_c3 12 rfl rfl
theorem wp_md_page_d98 : decode prog_13_method_62_code 98 = .ok (.iaload, 1) := wt_op46 wb18m8_prog_13_method_62_code_c3 13 rfl rfl
theorem wp_md_page_d99 : decode prog_13_method_62_code 99 = .ok (.if_icmp .ge 43, 3) := wt_op162 wb18m8_prog_13_method_62_code_c3 14 rfl rfl rfl
theorem wp_md_page_d102 : decode prog_13_method_62_code 102 = .ok (.iload_n 2, 1) := wt_op28 wb18m8_prog_13_method_62_code_c3 17 rfl rfl
theorem wp_md_page_d103 : decode prog_13_method_62_code 103 = .ok (.iconst 2, 1) := wt_op5 wb18m8_prog_13_method_62_code_c3 18 rfl rfl
theorem wp_md_page_d104 : decode prog_13_method_62_code 104 = .ok (.if_icmp .ne 38, 3) := wt_op160 wb18m8_prog_13_method_62_code_c3 19 rfl rfl rfl
theorem wp_md_page_d107 : decode prog_13_method_62_code 107 = .ok (.iload_n 3, 1) := wt_op29 wb18m8_prog_13_method_62_code_c3 22 rfl rfl
theorem wp_md_page_d108 : decode prog_13_method_62_code 108 = .ok (.aload_n 0, 1) := wt_op42 wb18m8_prog_13_method_62_code_c3 23 rfl rfl
theorem wp_md_page_d109 : decode prog_13_method_62_code 109 = .ok (.getfield 50, 3) := wt_op180 wb18m8_prog_13_method_62_code_c3 24 rfl rfl rfl
theorem wp_md_page_d112 : decode prog_13_method_62_code 112 = .ok (.aload_n 0, 1) := wt_op42 wb18m8_prog_13_method_62_code_c3 27 rfl rfl
theorem wp_md_page_d113 : decode prog_13_method_62_code 113 = .ok (.getfield 106, 3) := wt_op180 wb18m8_prog_13_method_62_code_c4 0 rfl rfl rfl
theorem wp_md_page_d116 : decode prog_13_method_62_code 116 = .ok (.iload_n 1, 1) := wt_op27 wb18m8_prog_13_method_62_code_c4 3 rfl rfl
theorem wp_md_page_d117 : decode prog_13_method_62_code 117 = .ok (.aaload, 1) := wt_op50 wb18m8_prog_13_method_62_code_c4 4 rfl rfl
theorem wp_md_page_d118 : decode prog_13_method_62_code 118 = .ok (.iload 4, 2) := wt_op21 wb18m8_prog_13_method_62_code_c4 5 rfl rfl
theorem wp_md_page_d120 : decode prog_13_method_62_code 120 = .ok (.iaload, 1) := wt_op46 wb18m8_prog_13_method_62_code_c4 7 rfl rfl
theorem wp_md_page_d121 : decode prog_13_method_62_code 121 = .ok (.iaload, 1) := wt_op46 wb18m8_prog_13_method_62_code_c4 8 rfl rfl
theorem wp_md_page_d122 : decode prog_13_method_62_code 122 = .ok (.aload_n 0, 1) := wt_op42 wb18m8_prog_13_method_62_code_c4 9 rfl rfl
theorem wp_md_page_d123 : decode prog_13_method_62_code 123 = .ok (.getfield 202, 3) := wt_op180 wb18m8_prog_13_method_62_code_c4 10 rfl rfl rfl
theorem wp_md_page_d126 : decode prog_13_method_62_code 126 = .ok (.if_icmp .ge 7, 3) := wt_op162 wb18m8_prog_13_method_62_code_c4 13 rfl rfl rfl
theorem wp_md_page_d129 : decode prog_13_method_62_code 129 = .ok (.iconst 1, 1) := wt_op4 wb18m8_prog_13_method_62_code_c4 16 rfl rfl
theorem wp_md_page_d130 : decode prog_13_method_62_code 130 = .ok (.goto 4, 3) := wt_op167 wb18m8_prog_13_method_62_code_c4 17 rfl rfl rfl
theorem wp_md_page_d133 : decode prog_13_method_62_code 133 = .ok (.iconst 0, 1) := wt_op3 wb18m8_prog_13_method_62_code_c4 20 rfl rfl
theorem wp_md_page_d134 : decode prog_13_method_62_code 134 = .ok (.iadd, 1) := wt_op96 wb18m8_prog_13_method_62_code_c4 21 rfl rfl
theorem wp_md_page_d135 : decode prog_13_method_62_code 135 = .ok (.istore_n 3, 1) := wt_op62 wb18m8_prog_13_method_62_code_c4 22 rfl rfl
theorem wp_md_page_d136 : decode prog_13_method_62_code 136 = .ok (.iinc 4 1, 3) := wt_op132 wb18m8_prog_13_method_62_code_c4 23 rfl rfl rfl
theorem wp_md_page_d139 : decode prog_13_method_62_code 139 = .ok (.goto (-48), 3) := wt_op167 wb18m8_prog_13_method_62_code_c4 26 rfl rfl rfl
theorem wp_md_page_d142 : decode prog_13_method_62_code 142 = .ok (.iconst 0, 1) := wt_op3 wb18m8_prog_13_method_62_code_c5 0 rfl rfl
theorem wp_md_page_d143 : decode prog_13_method_62_code 143 = .ok (.istore 4, 2) := wt_op54 wb18m8_prog_13_method_62_code_c5 1 rfl rfl
theorem wp_md_page_d145 : decode prog_13_method_62_code 145 = .ok (.iload 4, 2) := wt_op21 wb18m8_prog_13_method_62_code_c5 3 rfl rfl
theorem wp_md_page_d147 : decode prog_13_method_62_code 147 = .ok (.aload_n 0, 1) := wt_op42 wb18m8_prog_13_method_62_code_c5 5 rfl rfl
theorem wp_md_page_d148 : decode prog_13_method_62_code 148 = .ok (.getfield 88, 3) := wt_op180 wb18m8_prog_13_method_62_code_c5 6 rfl rfl rfl
theorem wp_md_page_d151 : decode prog_13_method_62_code 151 = .ok (.aload_n 0, 1) := wt_op42 wb18m8_prog_13_method_62_code_c5 9 rfl rfl
theorem wp_md_page_d152 : decode prog_13_method_62_code 152 = .ok (.getfield 100, 3) := wt_op180 wb18m8_prog_13_method_62_code_c5 10 rfl rfl rfl
theorem wp_md_page_d155 : decode prog_13_method_62_code 155 = .ok (.iload_n 1, 1) := wt_op27 wb18m8_prog_13_method_62_code_c5 13 rfl rfl
theorem wp_md_page_d156 : decode prog_13_method_62_code 156 = .ok (.iaload, 1) := wt_op46 wb18m8_prog_13_method_62_code_c5 14 rfl rfl
theorem wp_md_page_d157 : decode prog_13_method_62_code 157 = .ok (.iaload, 1) := wt_op46 wb18m8_prog_13_method_62_code_c5 15 rfl rfl
theorem wp_md_page_d158 : decode prog_13_method_62_code 158 = .ok (.if_icmp .ge 46, 3) := wt_op162 wb18m8_prog_13_method_62_code_c5 16 rfl rfl rfl
theorem wp_md_page_d161 : decode prog_13_method_62_code 161 = .ok (.iload_n 2, 1) := wt_op28 wb18m8_prog_13_method_62_code_c5 19 rfl rfl
theorem wp_md_page_d162 : decode prog_13_method_62_code 162 = .ok (.iconst 4, 1) := wt_op7 wb18m8_prog_13_method_62_code_c5 20 rfl rfl
theorem wp_md_page_d163 : decode prog_13_method_62_code 163 = .ok (.if_icmp .ne 41, 3) := wt_op160 wb18m8_prog_13_method_62_code_c5 21 rfl rfl rfl
theorem wp_md_page_d166 : decode prog_13_method_62_code 166 = .ok (.iload_n 3, 1) := wt_op29 wb18m8_prog_13_method_62_code_c5 24 rfl rfl
theorem wp_md_page_d167 : decode prog_13_method_62_code 167 = .ok (.aload_n 0, 1) := wt_op42 wb18m8_prog_13_method_62_code_c5 25 rfl rfl
theorem wp_md_page_d168 : decode prog_13_method_62_code 168 = .ok (.iload_n 1, 1) := wt_op27 wb18m8_prog_13_method_62_code_c5 26 rfl rfl
theorem wp_md_page_d169 : decode prog_13_method_62_code 169 = .ok (.iload 4, 2) := wt_op21 wb18m8_prog_13_method_62_code_c5 27 rfl rfl
theorem wp_md_page_d171 : decode prog_13_method_62_code 171 = .ok (.invokevirtual 336, 3) := wt_op182 wb18m8_prog_13_method_62_code_c6 0 rfl rfl rfl
theorem wp_md_page_d174 : decode prog_13_method_62_code 174 = .ok (.aload_n 0, 1) := wt_op42 wb18m8_prog_13_method_62_code_c6 3 rfl rfl
theorem wp_md_page_d175 : decode prog_13_method_62_code 175 = .ok (.getfield 91, 3) := wt_op180 wb18m8_prog_13_method_62_code_c6 4 rfl rfl rfl
theorem wp_md_page_d178 : decode prog_13_method_62_code 178 = .ok (.aload_n 0, 1) := wt_op42 wb18m8_prog_13_method_62_code_c6 7 rfl rfl
theorem wp_md_page_d179 : decode prog_13_method_62_code 179 = .ok (.getfield 100, 3) := wt_op180 wb18m8_prog_13_method_62_code_c6 8 rfl rfl rfl
theorem wp_md_page_d182 : decode prog_13_method_62_code 182 = .ok (.iload_n 1, 1) := wt_op27 wb18m8_prog_13_method_62_code_c6 11 rfl rfl
theorem wp_md_page_d183 : decode prog_13_method_62_code 183 = .ok (.iaload, 1) := wt_op46 wb18m8_prog_13_method_62_code_c6 12 rfl rfl
theorem wp_md_page_d184 : decode prog_13_method_62_code 184 = .ok (.aaload, 1) := wt_op50 wb18m8_prog_13_method_62_code_c6 13 rfl rfl
theorem wp_md_page_d185 : decode prog_13_method_62_code 185 = .ok (.iload 4, 2) := wt_op21 wb18m8_prog_13_method_62_code_c6 14 rfl rfl
theorem wp_md_page_d187 : decode prog_13_method_62_code 187 = .ok (.iaload, 1) := wt_op46 wb18m8_prog_13_method_62_code_c6 16 rfl rfl
theorem wp_md_page_d188 : decode prog_13_method_62_code 188 = .ok (.if_icmp .ne 7, 3) := wt_op160 wb18m8_prog_13_method_62_code_c6 17 rfl rfl rfl
theorem wp_md_page_d191 : decode prog_13_method_62_code 191 = .ok (.iconst 0, 1) := wt_op3 wb18m8_prog_13_method_62_code_c6 20 rfl rfl
theorem wp_md_page_d192 : decode prog_13_method_62_code 192 = .ok (.goto 4, 3) := wt_op167 wb18m8_prog_13_method_62_code_c6 21 rfl rfl rfl
theorem wp_md_page_d195 : decode prog_13_method_62_code 195 = .ok (.iconst 1, 1) := wt_op4 wb18m8_prog_13_method_62_code_c6 24 rfl rfl
theorem wp_md_page_d196 : decode prog_13_method_62_code 196 = .ok (.iadd, 1) := wt_op96 wb18m8_prog_13_method_62_code_c6 25 rfl rfl
theorem wp_md_page_d197 : decode prog_13_method_62_code 197 = .ok (.istore_n 3, 1) := wt_op62 wb18m8_prog_13_method_62_code_c6 26 rfl rfl
theorem wp_md_page_d198 : decode prog_13_method_62_code 198 = .ok (.iinc 4 1, 3) := wt_op132 wb18m8_prog_13_method_62_code_c6 27 rfl rfl rfl
theorem wp_md_page_d201 : decode prog_13_method_62_code 201 = .ok (.goto (-56), 3) := wt_op167 wb18m8_prog_13_method_62_code_c7 0 rfl rfl rfl
theorem wp_md_page_d204 : decode prog_13_method_62_code 204 = .ok (.iload_n 3, 1) := wt_op29 wb18m8_prog_13_method_62_code_c7 3 rfl rfl
theorem wp_md_page_d205 : decode prog_13_method_62_code 205 = .ok (.ireturn, 1) := wt_op172 wb18m8_prog_13_method_62_code_c7 4 rfl rfl
noncomputable def wp_md_page_B196 (n : Nat) (x1 : Int32) (x2 : Int32) (x4 : Int32) (K145 : Int32 × Int32 × wt_St → Option (Int32 × wt_St)) (y0 : Int32) (y1 : Int32) (σ : wt_St) : Option (Int32 × wt_St) :=
  K145 ((y0 + y1), (x4 + (1 : Int32)), σ)
set_option maxRecDepth 100000 in
set_option maxHeartbeats 4000000 in
theorem wp_md_page_B196_ok  {x1 : Int32} {x2 : Int32} {x4 : Int32} {X : wt_X} {n : Nat} {res : Int32 × wt_St} (hE : wt_Ok X prog_13_method_62_code 5 "WornTypeModel" 2 0) (hR : wt_Rt X (some .int) (some res.1) res.2) (hD : ∀ i, 108 ≤ i → i < 321 → wt_dom (wt_xw X) i)  {K145 : Int32 × Int32 × wt_St → Option (Int32 × wt_St)} (hK145 : ∀ s : Int32 × Int32 × wt_St, K145 s = some res → wt_V X 0 s.2.2 145 [some (.ref (wt_ad (wt_xw X) 108)), some (.int x1), some (.int x2), some (.int s.1), some (.int s.2.1)] []) {σ : wt_St} {y0 : Int32} {y1 : Int32} (h : wp_md_page_B196 n x1 x2 x4 K145 y0 y1 σ = some res) : wt_V X 0 σ 196 [some (.ref (wt_ad (wt_xw X) 108)), some (.int x1), some (.int x2), none, some (.int x4)] [.int y1, .int y0] := by
  unfold wp_md_page_B196 at h
  refine wt_iadd hE wp_md_page_d196 ?_
  refine wt_istore_n hE [some (.ref (wt_ad (wt_xw X) 108)), some (.int x1), some (.int x2), some (.int (y0 + y1)), some (.int x4)] wp_md_page_d197 (by decide) rfl ?_
  refine wt_iinc hE (x4 + (1 : Int32)) [some (.ref (wt_ad (wt_xw X) 108)), some (.int x1), some (.int x2), some (.int (y0 + y1)), some (.int (x4 + (1 : Int32)))] wp_md_page_d198 (by decide) rfl rfl rfl ?_
  refine wt_goto hE 145 wp_md_page_d201 rfl ?_
  exact hK145 ((y0 + y1), (x4 + (1 : Int32)), σ) h
noncomputable def wp_md_page_B145 (n : Nat) (x1 : Int32) (x2 : Int32) (K145 : Int32 × Int32 × wt_St → Option (Int32 × wt_St)) (s : Int32 × Int32 × wt_St) : Option (Int32 × wt_St) :=
  if x1 < 0 ∨ 4 ≤ Int32.toNatClampNeg x1 then none else
  if (wt_ga s.2.2 275 (Int32.toNatClampNeg x1)) < 0 ∨ 8 ≤ Int32.toNatClampNeg (wt_ga s.2.2 275 (Int32.toNatClampNeg x1)) then none else
  if (wt_ga s.2.2 253 (Int32.toNatClampNeg (wt_ga s.2.2 275 (Int32.toNatClampNeg x1)))) ≤ s.2.1 then
    some (s.1, s.2.2)
  else
    if x2 = (4 : Int32) then
      (wp_md_readOf n x1 s.2.1 s.2.2).bind fun q17 =>
      if x1 < 0 ∨ 4 ≤ Int32.toNatClampNeg x1 then none else
      if (wt_ga q17.2 275 (Int32.toNatClampNeg x1)) < 0 ∨ 8 ≤ Int32.toNatClampNeg (wt_ga q17.2 275 (Int32.toNatClampNeg x1)) then none else
      if s.2.1 < 0 ∨ 12 ≤ Int32.toNatClampNeg s.2.1 then none else
      if q17.1 = (wt_ga q17.2 (255 + Int32.toNatClampNeg (wt_ga q17.2 275 (Int32.toNatClampNeg x1))) (Int32.toNatClampNeg s.2.1)) then
        wp_md_page_B196 n x1 x2 s.2.1 K145 s.1 (0 : Int32) q17.2
      else
        wp_md_page_B196 n x1 x2 s.2.1 K145 s.1 (1 : Int32) q17.2
    else
      some (s.1, s.2.2)
set_option maxRecDepth 100000 in
set_option maxHeartbeats 4000000 in
theorem wp_md_page_B145_ok  {x1 : Int32} {x2 : Int32} {X : wt_X} {n : Nat} {res : Int32 × wt_St} (hE : wt_Ok X prog_13_method_62_code 5 "WornTypeModel" 2 0) (hR : wt_Rt X (some .int) (some res.1) res.2) (hD : ∀ i, 108 ≤ i → i < 321 → wt_dom (wt_xw X) i)  {K145 : Int32 × Int32 × wt_St → Option (Int32 × wt_St)} (hK145 : ∀ s : Int32 × Int32 × wt_St, K145 s = some res → wt_V X 0 s.2.2 145 [some (.ref (wt_ad (wt_xw X) 108)), some (.int x1), some (.int x2), some (.int s.1), some (.int s.2.1)] []) {s : Int32 × Int32 × wt_St} (h : wp_md_page_B145 n x1 x2 K145 s = some res) : wt_V X 0 s.2.2 145 [some (.ref (wt_ad (wt_xw X) 108)), some (.int x1), some (.int x2), some (.int s.1), some (.int s.2.1)] [] := by
  unfold wp_md_page_B145 at h
  refine wt_iload hE wp_md_page_d145 rfl ?_
  refine wt_aload_n hE wp_md_page_d147 rfl ?_
  refine wt_getr hE (r := 253) wt_lf_md_88 (hD 108 (by decide) (by decide)) wt_L108 rfl wp_md_page_d148 ?_
  refine wt_aload_n hE wp_md_page_d151 rfl ?_
  refine wt_getr hE (r := 275) wt_lf_md_100 (hD 108 (by decide) (by decide)) wt_L108 rfl wp_md_page_d152 ?_
  refine wt_iload_n hE wp_md_page_d155 rfl ?_
  obtain ⟨g13, h⟩ := wt_gd h
  refine wt_iald hE (hD 275 (by decide) (by decide)) wt_L275 g13 wp_md_page_d156 ?_
  obtain ⟨g14, h⟩ := wt_gd h
  refine wt_iald hE (hD 253 (by decide) (by decide)) wt_L253 g14 wp_md_page_d157 ?_
  refine wt_icmp_ge hE 204 wp_md_page_d158 rfl (fun c15 => ?_) (fun c15 => ?_)
  · have h := wt_ip c15 h
    refine wt_iload_n hE wp_md_page_d204 rfl ?_
    cases h
    exact wt_iret hE hR wp_md_page_d205
  · have h := wt_in c15 h
    refine wt_iload_n hE wp_md_page_d161 rfl ?_
    refine wt_iconst hE (4 : Int32) wp_md_page_d162 wt_ci_4 ?_
    refine wt_icmp_ne hE 204 wp_md_page_d163 rfl (fun c16 => ?_) (fun c16 => ?_)
    · have h := wt_in c16 h
      refine wt_iload_n hE wp_md_page_d204 rfl ?_
      cases h
      exact wt_iret hE hR wp_md_page_d205
    · have h := wt_ip c16 h
      refine wt_iload_n hE wp_md_page_d166 rfl ?_
      refine wt_aload_n hE wp_md_page_d167 rfl ?_
      refine wt_iload_n hE wp_md_page_d168 rfl ?_
      refine wt_iload hE wp_md_page_d169 rfl ?_
      obtain ⟨q17, hq17, h⟩ := wt_bi h
      refine wt_callVi hE [.int x1, .int s.2.1] wt_lm_md_336 wt_ya_md_readOf (wp_md_readOf_ok hD hq17) (by omega) (hD 108 (by decide) (by decide)) wt_L108 rfl rfl rfl (Nat.le_of_ble_eq_true rfl) (Nat.zero_le _) wp_md_page_d171 (fun hbq17 => ?_)
      refine wt_aload_n hE wp_md_page_d174 rfl ?_
      refine wt_getr hE (r := 254) wt_lf_md_91 (hD 108 (by decide) (by decide)) wt_L108 rfl wp_md_page_d175 ?_
      refine wt_aload_n hE wp_md_page_d178 rfl ?_
      refine wt_getr hE (r := 275) wt_lf_md_100 (hD 108 (by decide) (by decide)) wt_L108 rfl wp_md_page_d179 ?_
      refine wt_iload_n hE wp_md_page_d182 rfl ?_
      obtain ⟨g18, h⟩ := wt_gd h
      refine wt_iald hE (hD 275 (by decide) (by decide)) wt_L275 g18 wp_md_page_d183 ?_
      obtain ⟨g19, h⟩ := wt_gd h
      have lg19 := wt_lt g19
      refine wt_aald1 hE (hD 254 (by decide) (by decide)) wt_L254 g19 wp_md_page_d184 ?_
      refine wt_iload hE wp_md_page_d185 rfl ?_
      obtain ⟨g20, h⟩ := wt_gd h
      refine wt_iald hE (hD _ (by omega) (by omega)) (wt_G255 _ lg19) g20 wp_md_page_d187 ?_
      refine wt_icmp_ne hE 195 wp_md_page_d188 rfl (fun c21 => ?_) (fun c21 => ?_)
      · have h := wt_in c21 h
        refine wt_iconst hE (1 : Int32) wp_md_page_d195 wt_ci_1 ?_
        refine wt_wk [true, true, true, false, true] rfl ?_
        exact wp_md_page_B196_ok hE hR hD hK145 h
      · have h := wt_ip c21 h
        refine wt_iconst hE (0 : Int32) wp_md_page_d191 wt_ci_0 ?_
        refine wt_goto hE 196 wp_md_page_d192 rfl ?_
        refine wt_wk [true, true, true, false, true] rfl ?_
        exact wp_md_page_B196_ok hE hR hD hK145 h
noncomputable def wp_md_page_B142 (n : Nat) (x1 : Int32) (x2 : Int32) (x3 : Int32) (σ : wt_St) : Option (Int32 × wt_St) :=
  wt_it (wp_md_page_B145 n x1 x2) n (x3, (0 : Int32), σ)
set_option maxRecDepth 100000 in
set_option maxHeartbeats 4000000 in
theorem wp_md_page_B142_ok  {x1 : Int32} {x2 : Int32} {x3 : Int32} {X : wt_X} {n : Nat} {res : Int32 × wt_St} (hE : wt_Ok X prog_13_method_62_code 5 "WornTypeModel" 2 0) (hR : wt_Rt X (some .int) (some res.1) res.2) (hD : ∀ i, 108 ≤ i → i < 321 → wt_dom (wt_xw X) i)  {σ : wt_St} (h : wp_md_page_B142 n x1 x2 x3 σ = some res) : wt_V X 0 σ 142 [some (.ref (wt_ad (wt_xw X) 108)), some (.int x1), some (.int x2), some (.int x3), none] [] := by
  unfold wp_md_page_B142 at h
  refine wt_iconst hE (0 : Int32) wp_md_page_d142 wt_ci_0 ?_
  refine wt_istore hE [some (.ref (wt_ad (wt_xw X) 108)), some (.int x1), some (.int x2), some (.int x3), some (.int (0 : Int32))] wp_md_page_d143 (Nat.le_of_ble_eq_true rfl) rfl ?_
  exact wt_it_ind (fun z => wt_V X 0 z.2.2 145 [some (.ref (wt_ad (wt_xw X) 108)), some (.int x1), some (.int x2), some (.int z.1), some (.int z.2.1)] []) (fun K hK z h => wp_md_page_B145_ok hE hR hD hK h) n (x3, (0 : Int32), σ) h
noncomputable def wp_md_page_B134 (n : Nat) (x1 : Int32) (x2 : Int32) (x4 : Int32) (K91 : Int32 × Int32 × wt_St → Option (Int32 × wt_St)) (y0 : Int32) (y1 : Int32) (σ : wt_St) : Option (Int32 × wt_St) :=
  K91 ((y0 + y1), (x4 + (1 : Int32)), σ)
set_option maxRecDepth 100000 in
set_option maxHeartbeats 4000000 in
theorem wp_md_page_B134_ok  {x1 : Int32} {x2 : Int32} {x4 : Int32} {X : wt_X} {n : Nat} {res : Int32 × wt_St} (hE : wt_Ok X prog_13_method_62_code 5 "WornTypeModel" 2 0) (hR : wt_Rt X (some .int) (some res.1) res.2) (hD : ∀ i, 108 ≤ i → i < 321 → wt_dom (wt_xw X) i)  {K91 : Int32 × Int32 × wt_St → Option (Int32 × wt_St)} (hK91 : ∀ s : Int32 × Int32 × wt_St, K91 s = some res → wt_V X 0 s.2.2 91 [some (.ref (wt_ad (wt_xw X) 108)), some (.int x1), some (.int x2), some (.int s.1), some (.int s.2.1)] []) {σ : wt_St} {y0 : Int32} {y1 : Int32} (h : wp_md_page_B134 n x1 x2 x4 K91 y0 y1 σ = some res) : wt_V X 0 σ 134 [some (.ref (wt_ad (wt_xw X) 108)), some (.int x1), some (.int x2), none, some (.int x4)] [.int y1, .int y0] := by
  unfold wp_md_page_B134 at h
  refine wt_iadd hE wp_md_page_d134 ?_
  refine wt_istore_n hE [some (.ref (wt_ad (wt_xw X) 108)), some (.int x1), some (.int x2), some (.int (y0 + y1)), some (.int x4)] wp_md_page_d135 (by decide) rfl ?_
  refine wt_iinc hE (x4 + (1 : Int32)) [some (.ref (wt_ad (wt_xw X) 108)), some (.int x1), some (.int x2), some (.int (y0 + y1)), some (.int (x4 + (1 : Int32)))] wp_md_page_d136 (by decide) rfl rfl rfl ?_
  refine wt_goto hE 91 wp_md_page_d139 rfl ?_
  exact hK91 ((y0 + y1), (x4 + (1 : Int32)), σ) h
noncomputable def wp_md_page_B91 (n : Nat) (x1 : Int32) (x2 : Int32) (K91 : Int32 × Int32 × wt_St → Option (Int32 × wt_St)) (s : Int32 × Int32 × wt_St) : Option (Int32 × wt_St) :=
  if x1 < 0 ∨ 4 ≤ Int32.toNatClampNeg x1 then none else
  if (wt_ga s.2.2 276 (Int32.toNatClampNeg x1)) ≤ s.2.1 then
    wp_md_page_B142 n x1 x2 s.1 s.2.2
  else
    if x2 = (2 : Int32) then
      if x1 < 0 ∨ 4 ≤ Int32.toNatClampNeg x1 then none else
      if s.2.1 < 0 ∨ 108 ≤ Int32.toNatClampNeg s.2.1 then none else
      if (wt_ga s.2.2 (278 + Int32.toNatClampNeg x1) (Int32.toNatClampNeg s.2.1)) < 0 ∨ 338 ≤ Int32.toNatClampNeg (wt_ga s.2.2 (278 + Int32.toNatClampNeg x1) (Int32.toNatClampNeg s.2.1)) then none else
      if (wt_gf s.2.2 108 25) ≤ (wt_ga s.2.2 121 (Int32.toNatClampNeg (wt_ga s.2.2 (278 + Int32.toNatClampNeg x1) (Int32.toNatClampNeg s.2.1)))) then
        wp_md_page_B134 n x1 x2 s.2.1 K91 s.1 (0 : Int32) s.2.2
      else
        wp_md_page_B134 n x1 x2 s.2.1 K91 s.1 (1 : Int32) s.2.2
    else
      wp_md_page_B142 n x1 x2 s.1 s.2.2
set_option maxRecDepth 100000 in
set_option maxHeartbeats 4000000 in
theorem wp_md_page_B91_ok  {x1 : Int32} {x2 : Int32} {X : wt_X} {n : Nat} {res : Int32 × wt_St} (hE : wt_Ok X prog_13_method_62_code 5 "WornTypeModel" 2 0) (hR : wt_Rt X (some .int) (some res.1) res.2) (hD : ∀ i, 108 ≤ i → i < 321 → wt_dom (wt_xw X) i)  {K91 : Int32 × Int32 × wt_St → Option (Int32 × wt_St)} (hK91 : ∀ s : Int32 × Int32 × wt_St, K91 s = some res → wt_V X 0 s.2.2 91 [some (.ref (wt_ad (wt_xw X) 108)), some (.int x1), some (.int x2), some (.int s.1), some (.int s.2.1)] []) {s : Int32 × Int32 × wt_St} (h : wp_md_page_B91 n x1 x2 K91 s = some res) : wt_V X 0 s.2.2 91 [some (.ref (wt_ad (wt_xw X) 108)), some (.int x1), some (.int x2), some (.int s.1), some (.int s.2.1)] [] := by
  unfold wp_md_page_B91 at h
  refine wt_iload hE wp_md_page_d91 rfl ?_
  refine wt_aload_n hE wp_md_page_d93 rfl ?_
  refine wt_getr hE (r := 276) wt_lf_md_103 (hD 108 (by decide) (by decide)) wt_L108 rfl wp_md_page_d94 ?_
  refine wt_iload_n hE wp_md_page_d97 rfl ?_
  obtain ⟨g11, h⟩ := wt_gd h
  refine wt_iald hE (hD 276 (by decide) (by decide)) wt_L276 g11 wp_md_page_d98 ?_
  refine wt_icmp_ge hE 142 wp_md_page_d99 rfl (fun c12 => ?_) (fun c12 => ?_)
  · have h := wt_ip c12 h
    refine wt_wk [true, true, true, true, false] rfl ?_
    exact wp_md_page_B142_ok hE hR hD h
  · have h := wt_in c12 h
    refine wt_iload_n hE wp_md_page_d102 rfl ?_
    refine wt_iconst hE (2 : Int32) wp_md_page_d103 wt_ci_2 ?_
    refine wt_icmp_ne hE 142 wp_md_page_d104 rfl (fun c22 => ?_) (fun c22 => ?_)
    · have h := wt_in c22 h
      refine wt_wk [true, true, true, true, false] rfl ?_
      exact wp_md_page_B142_ok hE hR hD h
    · have h := wt_ip c22 h
      refine wt_iload_n hE wp_md_page_d107 rfl ?_
      refine wt_aload_n hE wp_md_page_d108 rfl ?_
      refine wt_getr hE (r := 121) wt_lf_md_50 (hD 108 (by decide) (by decide)) wt_L108 rfl wp_md_page_d109 ?_
      refine wt_aload_n hE wp_md_page_d112 rfl ?_
      refine wt_getr hE (r := 277) wt_lf_md_106 (hD 108 (by decide) (by decide)) wt_L108 rfl wp_md_page_d113 ?_
      refine wt_iload_n hE wp_md_page_d116 rfl ?_
      obtain ⟨g23, h⟩ := wt_gd h
      have lg23 := wt_lt g23
      refine wt_aald1 hE (hD 277 (by decide) (by decide)) wt_L277 g23 wp_md_page_d117 ?_
      refine wt_iload hE wp_md_page_d118 rfl ?_
      obtain ⟨g24, h⟩ := wt_gd h
      refine wt_iald hE (hD _ (by omega) (by omega)) (wt_G278 _ lg23) g24 wp_md_page_d120 ?_
      obtain ⟨g25, h⟩ := wt_gd h
      refine wt_iald hE (hD 121 (by decide) (by decide)) wt_L121 g25 wp_md_page_d121 ?_
      refine wt_aload_n hE wp_md_page_d122 rfl ?_
      refine wt_geti hE wt_lf_md_202 (hD 108 (by decide) (by decide)) wt_L108 rfl wp_md_page_d123 ?_
      refine wt_icmp_ge hE 133 wp_md_page_d126 rfl (fun c26 => ?_) (fun c26 => ?_)
      · have h := wt_ip c26 h
        refine wt_iconst hE (0 : Int32) wp_md_page_d133 wt_ci_0 ?_
        refine wt_wk [true, true, true, false, true] rfl ?_
        exact wp_md_page_B134_ok hE hR hD hK91 h
      · have h := wt_in c26 h
        refine wt_iconst hE (1 : Int32) wp_md_page_d129 wt_ci_1 ?_
        refine wt_goto hE 134 wp_md_page_d130 rfl ?_
        refine wt_wk [true, true, true, false, true] rfl ?_
        exact wp_md_page_B134_ok hE hR hD hK91 h
noncomputable def wp_md_page_B41 (n : Nat) (x1 : Int32) (x2 : Int32) (y1 : Int32) (σ : wt_St) : Option (Int32 × wt_St) :=
  (wp_md_bad n y1 (2 : Int32) σ).bind fun q7 =>
  if q7.1 = 0 then
    if (2 : Int32) ≤ x2 then
      if x2 = (3 : Int32) then
        (wp_md_leastOf n x1 q7.2).bind fun q27 =>
        some (q27.1, q27.2)
      else
        wt_it (wp_md_page_B91 n x1 x2) n ((0 : Int32), (0 : Int32), q7.2)
    else
      if x2 = 0 then
        if x1 < 0 ∨ 4 ≤ Int32.toNatClampNeg x1 then none else
        some ((wt_ga q7.2 275 (Int32.toNatClampNeg x1)), q7.2)
      else
        if x1 < 0 ∨ 4 ≤ Int32.toNatClampNeg x1 then none else
        some ((wt_ga q7.2 276 (Int32.toNatClampNeg x1)), q7.2)
  else
    some ((0 : Int32), q7.2)
set_option maxRecDepth 100000 in
set_option maxHeartbeats 4000000 in
theorem wp_md_page_B41_ok  {x1 : Int32} {x2 : Int32} {X : wt_X} {n : Nat} {res : Int32 × wt_St} (hE : wt_Ok X prog_13_method_62_code 5 "WornTypeModel" 2 0) (hR : wt_Rt X (some .int) (some res.1) res.2) (hD : ∀ i, 108 ≤ i → i < 321 → wt_dom (wt_xw X) i)  {σ : wt_St} {y1 : Int32} (h : wp_md_page_B41 n x1 x2 y1 σ = some res) : wt_V X 0 σ 41 [some (.ref (wt_ad (wt_xw X) 108)), some (.int x1), some (.int x2), none, none] [.int y1, .ref (wt_ad (wt_xw X) 108)] := by
  unfold wp_md_page_B41 at h
  refine wt_iconst hE (2 : Int32) wp_md_page_d41 wt_ci_2 ?_
  obtain ⟨q7, hq7, h⟩ := wt_bi h
  refine wt_callVi hE [.int y1, .int (2 : Int32)] wt_lm_md_230 wt_ya_md_bad (wp_md_bad_ok hD hq7) (by omega) (hD 108 (by decide) (by decide)) wt_L108 rfl rfl rfl (Nat.le_of_ble_eq_true rfl) (Nat.zero_le _) wp_md_page_d42 (fun hbq7 => ?_)
  refine wt_if_eq hE 50 wp_md_page_d45 rfl (fun c8 => ?_) (fun c8 => ?_)
  · have h := wt_ip c8 h
    refine wt_iload_n hE wp_md_page_d50 rfl ?_
    refine wt_iconst hE (2 : Int32) wp_md_page_d51 wt_ci_2 ?_
    refine wt_icmp_ge hE 75 wp_md_page_d52 rfl (fun c9 => ?_) (fun c9 => ?_)
    · have h := wt_ip c9 h
      refine wt_iload_n hE wp_md_page_d75 rfl ?_
      refine wt_iconst hE (3 : Int32) wp_md_page_d76 wt_ci_3 ?_
      refine wt_icmp_ne hE 86 wp_md_page_d77 rfl (fun c10 => ?_) (fun c10 => ?_)
      · have h := wt_in c10 h
        refine wt_iconst hE (0 : Int32) wp_md_page_d86 wt_ci_0 ?_
        refine wt_istore_n hE [some (.ref (wt_ad (wt_xw X) 108)), some (.int x1), some (.int x2), some (.int (0 : Int32)), none] wp_md_page_d87 (by decide) rfl ?_
        refine wt_iconst hE (0 : Int32) wp_md_page_d88 wt_ci_0 ?_
        refine wt_istore hE [some (.ref (wt_ad (wt_xw X) 108)), some (.int x1), some (.int x2), some (.int (0 : Int32)), some (.int (0 : Int32))] wp_md_page_d89 (Nat.le_of_ble_eq_true rfl) rfl ?_
        exact wt_it_ind (fun z => wt_V X 0 z.2.2 91 [some (.ref (wt_ad (wt_xw X) 108)), some (.int x1), some (.int x2), some (.int z.1), some (.int z.2.1)] []) (fun K hK z h => wp_md_page_B91_ok hE hR hD hK h) n ((0 : Int32), (0 : Int32), q7.2) h
      · have h := wt_ip c10 h
        refine wt_aload_n hE wp_md_page_d80 rfl ?_
        refine wt_iload_n hE wp_md_page_d81 rfl ?_
        obtain ⟨q27, hq27, h⟩ := wt_bi h
        refine wt_callVi hE [.int x1] wt_lm_md_329 wt_ya_md_leastOf (wp_md_leastOf_ok hD hq27) (by omega) (hD 108 (by decide) (by decide)) wt_L108 rfl rfl rfl (Nat.le_of_ble_eq_true rfl) (Nat.zero_le _) wp_md_page_d82 (fun hbq27 => ?_)
        cases h
        exact wt_iret hE hR wp_md_page_d85
    · have h := wt_in c9 h
      refine wt_iload_n hE wp_md_page_d55 rfl ?_
      refine wt_if_ne hE 68 wp_md_page_d56 rfl (fun c28 => ?_) (fun c28 => ?_)
      · have h := wt_in c28 h
        refine wt_aload_n hE wp_md_page_d68 rfl ?_
        refine wt_getr hE (r := 276) wt_lf_md_103 (hD 108 (by decide) (by decide)) wt_L108 rfl wp_md_page_d69 ?_
        refine wt_iload_n hE wp_md_page_d72 rfl ?_
        obtain ⟨g29, h⟩ := wt_gd h
        refine wt_iald hE (hD 276 (by decide) (by decide)) wt_L276 g29 wp_md_page_d73 ?_
        cases h
        exact wt_iret hE hR wp_md_page_d74
      · have h := wt_ip c28 h
        refine wt_aload_n hE wp_md_page_d59 rfl ?_
        refine wt_getr hE (r := 275) wt_lf_md_100 (hD 108 (by decide) (by decide)) wt_L108 rfl wp_md_page_d60 ?_
        refine wt_iload_n hE wp_md_page_d63 rfl ?_
        obtain ⟨g30, h⟩ := wt_gd h
        refine wt_iald hE (hD 275 (by decide) (by decide)) wt_L275 g30 wp_md_page_d64 ?_
        refine wt_goto hE 74 wp_md_page_d65 rfl ?_
        cases h
        exact wt_iret hE hR wp_md_page_d74
  · have h := wt_in c8 h
    refine wt_iconst hE (0 : Int32) wp_md_page_d48 wt_ci_0 ?_
    cases h
    exact wt_iret hE hR wp_md_page_d49
noncomputable def wp_md_page_B19 (n : Nat) (x1 : Int32) (x2 : Int32) (y1 : Int32) (σ : wt_St) : Option (Int32 × wt_St) :=
  (wp_md_bad n y1 (1 : Int32) σ).bind fun q3 =>
  if q3.1 = 0 then
    (wp_md_in n x2 (0 : Int32) (4 : Int32) q3.2).bind fun q5 =>
    if q5.1 = 0 then
      wp_md_page_B41 n x1 x2 (1 : Int32) q5.2
    else
      wp_md_page_B41 n x1 x2 (0 : Int32) q5.2
  else
    some ((0 : Int32), q3.2)
set_option maxRecDepth 100000 in
set_option maxHeartbeats 4000000 in
theorem wp_md_page_B19_ok  {x1 : Int32} {x2 : Int32} {X : wt_X} {n : Nat} {res : Int32 × wt_St} (hE : wt_Ok X prog_13_method_62_code 5 "WornTypeModel" 2 0) (hR : wt_Rt X (some .int) (some res.1) res.2) (hD : ∀ i, 108 ≤ i → i < 321 → wt_dom (wt_xw X) i)  {σ : wt_St} {y1 : Int32} (h : wp_md_page_B19 n x1 x2 y1 σ = some res) : wt_V X 0 σ 19 [some (.ref (wt_ad (wt_xw X) 108)), some (.int x1), some (.int x2), none, none] [.int y1, .ref (wt_ad (wt_xw X) 108)] := by
  unfold wp_md_page_B19 at h
  refine wt_iconst hE (1 : Int32) wp_md_page_d19 wt_ci_1 ?_
  obtain ⟨q3, hq3, h⟩ := wt_bi h
  refine wt_callVi hE [.int y1, .int (1 : Int32)] wt_lm_md_230 wt_ya_md_bad (wp_md_bad_ok hD hq3) (by omega) (hD 108 (by decide) (by decide)) wt_L108 rfl rfl rfl (Nat.le_of_ble_eq_true rfl) (Nat.zero_le _) wp_md_page_d20 (fun hbq3 => ?_)
  refine wt_if_ne hE 48 wp_md_page_d23 rfl (fun c4 => ?_) (fun c4 => ?_)
  · have h := wt_in c4 h
    refine wt_iconst hE (0 : Int32) wp_md_page_d48 wt_ci_0 ?_
    cases h
    exact wt_iret hE hR wp_md_page_d49
  · have h := wt_ip c4 h
    refine wt_aload_n hE wp_md_page_d26 rfl ?_
    refine wt_iload_n hE wp_md_page_d27 rfl ?_
    refine wt_iconst hE (0 : Int32) wp_md_page_d28 wt_ci_0 ?_
    refine wt_iconst hE (4 : Int32) wp_md_page_d29 wt_ci_4 ?_
    obtain ⟨q5, hq5, h⟩ := wt_bi h
    refine wt_callSi hE [.int x2, .int (0 : Int32), .int (4 : Int32)] wt_lm_md_185 wt_ya_md_in (wp_md_in_ok hq5) (by omega) rfl rfl (Nat.le_of_ble_eq_true rfl) (Nat.zero_le _) wp_md_page_d30 (fun hbq5 => ?_)
    refine wt_if_ne hE 40 wp_md_page_d33 rfl (fun c6 => ?_) (fun c6 => ?_)
    · have h := wt_in c6 h
      refine wt_iconst hE (0 : Int32) wp_md_page_d40 wt_ci_0 ?_
      exact wp_md_page_B41_ok hE hR hD h
    · have h := wt_ip c6 h
      refine wt_iconst hE (1 : Int32) wp_md_page_d36 wt_ci_1 ?_
      refine wt_goto hE 41 wp_md_page_d37 rfl ?_
      exact wp_md_page_B41_ok hE hR hD h
noncomputable def wp_md_page (n : Nat) (x1 : Int32) (x2 : Int32) (σ : wt_St) : Option (Int32 × wt_St) :=
  (wp_md_isPage n x1 (wt_sf σ 108 0 (0 : Int32))).bind fun q1 =>
  if q1.1 = 0 then
    wp_md_page_B19 n x1 x2 (1 : Int32) q1.2
  else
    wp_md_page_B19 n x1 x2 (0 : Int32) q1.2
set_option maxRecDepth 100000 in
set_option maxHeartbeats 4000000 in
theorem wp_md_page_ok {l : Launch} {w : wt_E} {n : Nat} {x1 : Int32} {x2 : Int32} (hD : ∀ i, 108 ≤ i → i < 321 → wt_dom w i) {σ : wt_St} {q : Int32 × wt_St} (h : wp_md_page n x1 x2 σ = some q) : wt_Ctr l w wt_y_md_page prog_13_method_62_code 5 (some .int) 2 [.ref (wt_ad w 108), .int x1, .int x2] σ (some q.1) q.2 := by
  refine wt_ctr wt_pl_md_page rfl (Nat.le_of_ble_eq_true rfl) [some (.ref (wt_ad w 108)), some (.int x1), some (.int x2), none, none] rfl ?_
  intro X hXl hXw hE hR
  subst hXl
  subst hXw
  have hE : wt_Ok X prog_13_method_62_code 5 "WornTypeModel" 2 0 := hE
  unfold wp_md_page at h
  refine wt_aload_n hE wp_md_page_d0 rfl ?_
  refine wt_iconst hE (0 : Int32) wp_md_page_d1 wt_ci_0 ?_
  refine wt_puti hE wt_lf_md_151 (hD 108 (by decide) (by decide)) wt_L108 rfl (fun q hq => by cases hq; rfl) wp_md_page_d2 ?_
  refine wt_aload_n hE wp_md_page_d5 rfl ?_
  refine wt_aload_n hE wp_md_page_d6 rfl ?_
  refine wt_iload_n hE wp_md_page_d7 rfl ?_
  obtain ⟨q1, hq1, h⟩ := wt_bi h
  refine wt_callVi hE [.int x1] wt_lm_md_326 wt_ya_md_isPage (wp_md_isPage_ok hD hq1) (by omega) (hD 108 (by decide) (by decide)) wt_L108 rfl rfl rfl (Nat.le_of_ble_eq_true rfl) (Nat.zero_le _) wp_md_page_d8 (fun hbq1 => ?_)
  refine wt_if_ne hE 18 wp_md_page_d11 rfl (fun c2 => ?_) (fun c2 => ?_)
  · have h := wt_in c2 h
    refine wt_iconst hE (0 : Int32) wp_md_page_d18 wt_ci_0 ?_
    exact wp_md_page_B19_ok hE hR hD h
  · have h := wt_ip c2 h
    refine wt_iconst hE (1 : Int32) wp_md_page_d14 wt_ci_1 ?_
    refine wt_goto hE 19 wp_md_page_d15 rfl ?_
    exact wp_md_page_B19_ok hE hR hD h
def wb18m8_prog_13_method_34_code_r3 : List (List Nat) := [27, 28, 184, 0, 227, 46, 167, 0, 13, 42, 180, 0, 59, 27, 28, 184, 0, 227, 46, 172] :: []
def wb18m8_prog_13_method_34_code_r2 : List (List Nat) := [3, 4, 184, 0, 185, 154, 0, 7, 4, 167, 0, 4, 3, 5, 182, 0, 230, 153, 0, 5, 3, 172, 29, 154, 0, 16, 42, 180, 0, 50] :: wb18m8_prog_13_method_34_code_r3
def wb18m8_prog_13_method_34_code_r1 : List (List Nat) := [42, 180, 0, 20, 27, 46, 4, 100, 184, 0, 185, 154, 0, 7, 4, 167, 0, 4, 3, 4, 182, 0, 230, 154, 0, 25, 42, 29] :: wb18m8_prog_13_method_34_code_r2
def wb18m8_prog_13_method_34_code_r0 : List (List Nat) := [42, 3, 181, 0, 151, 42, 27, 184, 1, 24, 154, 0, 7, 4, 167, 0, 4, 3, 5, 182, 0, 230, 154, 0, 54, 42, 28, 3] :: wb18m8_prog_13_method_34_code_r1
set_option maxRecDepth 100000 in
theorem wb18m8_prog_13_method_34_code_c0 : wt_cs prog_13_method_34_code 0 wb18m8_prog_13_method_34_code_r0 := wt_cs_of (by decide +kernel)
theorem wb18m8_prog_13_method_34_code_c1 : wt_cs prog_13_method_34_code 28 wb18m8_prog_13_method_34_code_r1 := wt_cs_tl (m := 28) wb18m8_prog_13_method_34_code_c0 rfl rfl
theorem wb18m8_prog_13_method_34_code_c2 : wt_cs prog_13_method_34_code 56 wb18m8_prog_13_method_34_code_r2 := wt_cs_tl (m := 28) wb18m8_prog_13_method_34_code_c1 rfl rfl
theorem wb18m8_prog_13_method_34_code_c3 : wt_cs prog_13_method_34_code 86 wb18m8_prog_13_method_34_code_r3 := wt_cs_tl (m := 30) wb18m8_prog_13_method_34_code_c2 rfl rfl
theorem wp_md_piece_d0 : decode prog_13_method_34_code 0 = .ok (.aload_n 0, 1) := wt_op42 wb18m8_prog_13_method_34_code_c0 0 rfl rfl
theorem wp_md_piece_d1 : decode prog_13_method_34_code 1 = .ok (.iconst 0, 1) := wt_op3 wb18m8_prog_13_method_34_code_c0 1 rfl rfl
theorem wp_md_piece_d2 : decode prog_13_method_34_code 2 = .ok (.putfield 151, 3) := wt_op181 wb18m8_prog_13_method_34_code_c0 2 rfl rfl rfl
theorem wp_md_piece_d5 : decode prog_13_method_34_code 5 = .ok (.aload_n 0, 1) := wt_op42 wb18m8_prog_13_method_34_code_c0 5 rfl rfl
theorem wp_md_piece_d6 : decode prog_13_method_34_code 6 = .ok (.iload_n 1, 1) := wt_op27 wb18m8_prog_13_method_34_code_c0 6 rfl rfl
theorem wp_md_piece_d7 : decode prog_13_method_34_code 7 = .ok (.invokestatic 280, 3) := wt_op184 wb18m8_prog_13_method_34_code_c0 7 rfl rfl rfl
theorem wp_md_piece_d10 : decode prog_13_method_34_code 10 = .ok (.ifCond .ne 7, 3) := wt_op154 wb18m8_prog_13_method_34_code_c0 10 rfl rfl rfl
theorem wp_md_piece_d13 : decode prog_13_method_34_code 13 = .ok (.iconst 1, 1) := wt_op4 wb18m8_prog_13_method_34_code_c0 13 rfl rfl
theorem wp_md_piece_d14 : decode prog_13_method_34_code 14 = .ok (.goto 4, 3) := wt_op167 wb18m8_prog_13_method_34_code_c0 14 rfl rfl rfl
theorem wp_md_piece_d17 : decode prog_13_method_34_code 17 = .ok (.iconst 0, 1) := wt_op3 wb18m8_prog_13_method_34_code_c0 17 rfl rfl
theorem wp_md_piece_d18 : decode prog_13_method_34_code 18 = .ok (.iconst 2, 1) := wt_op5 wb18m8_prog_13_method_34_code_c0 18 rfl rfl
theorem wp_md_piece_d19 : decode prog_13_method_34_code 19 = .ok (.invokevirtual 230, 3) := wt_op182 wb18m8_prog_13_method_34_code_c0 19 rfl rfl rfl
theorem wp_md_piece_d22 : decode prog_13_method_34_code 22 = .ok (.ifCond .ne 54, 3) := wt_op154 wb18m8_prog_13_method_34_code_c0 22 rfl rfl rfl
theorem wp_md_piece_d25 : decode prog_13_method_34_code 25 = .ok (.aload_n 0, 1) := wt_op42 wb18m8_prog_13_method_34_code_c0 25 rfl rfl
theorem wp_md_piece_d26 : decode prog_13_method_34_code 26 = .ok (.iload_n 2, 1) := wt_op28 wb18m8_prog_13_method_34_code_c0 26 rfl rfl
theorem wp_md_piece_d27 : decode prog_13_method_34_code 27 = .ok (.iconst 0, 1) := wt_op3 wb18m8_prog_13_method_34_code_c0 27 rfl rfl
theorem wp_md_piece_d28 : decode prog_13_method_34_code 28 = .ok (.aload_n 0, 1) := wt_op42 wb18m8_prog_13_method_34_code_c1 0 rfl rfl
theorem wp_md_piece_d29 : decode prog_13_method_34_code 29 = .ok (.getfield 20, 3) := wt_op180 wb18m8_prog_13_method_34_code_c1 1 rfl rfl rfl
theorem wp_md_piece_d32 : decode prog_13_method_34_code 32 = .ok (.iload_n 1, 1) := wt_op27 wb18m8_prog_13_method_34_code_c1 4 rfl rfl
theorem wp_md_piece_d33 : decode prog_13_method_34_code 33 = .ok (.iaload, 1) := wt_op46 wb18m8_prog_13_method_34_code_c1 5 rfl rfl
theorem wp_md_piece_d34 : decode prog_13_method_34_code 34 = .ok (.iconst 1, 1) := wt_op4 wb18m8_prog_13_method_34_code_c1 6 rfl rfl
theorem wp_md_piece_d35 : decode prog_13_method_34_code 35 = .ok (.isub, 1) := wt_op100 wb18m8_prog_13_method_34_code_c1 7 rfl rfl
theorem wp_md_piece_d36 : decode prog_13_method_34_code 36 = .ok (.invokestatic 185, 3) := wt_op184 wb18m8_prog_13_method_34_code_c1 8 rfl rfl rfl
theorem wp_md_piece_d39 : decode prog_13_method_34_code 39 = .ok (.ifCond .ne 7, 3) := wt_op154 wb18m8_prog_13_method_34_code_c1 11 rfl rfl rfl
theorem wp_md_piece_d42 : decode prog_13_method_34_code 42 = .ok (.iconst 1, 1) := wt_op4 wb18m8_prog_13_method_34_code_c1 14 rfl rfl
theorem wp_md_piece_d43 : decode prog_13_method_34_code 43 = .ok (.goto 4, 3) := wt_op167 wb18m8_prog_13_method_34_code_c1 15 rfl rfl rfl
theorem wp_md_piece_d46 : decode prog_13_method_34_code 46 = .ok (.iconst 0, 1) := wt_op3 wb18m8_prog_13_method_34_code_c1 18 rfl rfl
theorem wp_md_piece_d47 : decode prog_13_method_34_code 47 = .ok (.iconst 1, 1) := wt_op4 wb18m8_prog_13_method_34_code_c1 19 rfl rfl
theorem wp_md_piece_d48 : decode prog_13_method_34_code 48 = .ok (.invokevirtual 230, 3) := wt_op182 wb18m8_prog_13_method_34_code_c1 20 rfl rfl rfl
theorem wp_md_piece_d51 : decode prog_13_method_34_code 51 = .ok (.ifCond .ne 25, 3) := wt_op154 wb18m8_prog_13_method_34_code_c1 23 rfl rfl rfl
theorem wp_md_piece_d54 : decode prog_13_method_34_code 54 = .ok (.aload_n 0, 1) := wt_op42 wb18m8_prog_13_method_34_code_c1 26 rfl rfl
theorem wp_md_piece_d55 : decode prog_13_method_34_code 55 = .ok (.iload_n 3, 1) := wt_op29 wb18m8_prog_13_method_34_code_c1 27 rfl rfl
theorem wp_md_piece_d56 : decode prog_13_method_34_code 56 = .ok (.iconst 0, 1) := wt_op3 wb18m8_prog_13_method_34_code_c2 0 rfl rfl
theorem wp_md_piece_d57 : decode prog_13_method_34_code 57 = .ok (.iconst 1, 1) := wt_op4 wb18m8_prog_13_method_34_code_c2 1 rfl rfl
theorem wp_md_piece_d58 : decode prog_13_method_34_code 58 = .ok (.invokestatic 185, 3) := wt_op184 wb18m8_prog_13_method_34_code_c2 2 rfl rfl rfl
theorem wp_md_piece_d61 : decode prog_13_method_34_code 61 = .ok (.ifCond .ne 7, 3) := wt_op154 wb18m8_prog_13_method_34_code_c2 5 rfl rfl rfl
theorem wp_md_piece_d64 : decode prog_13_method_34_code 64 = .ok (.iconst 1, 1) := wt_op4 wb18m8_prog_13_method_34_code_c2 8 rfl rfl
theorem wp_md_piece_d65 : decode prog_13_method_34_code 65 = .ok (.goto 4, 3) := wt_op167 wb18m8_prog_13_method_34_code_c2 9 rfl rfl rfl
theorem wp_md_piece_d68 : decode prog_13_method_34_code 68 = .ok (.iconst 0, 1) := wt_op3 wb18m8_prog_13_method_34_code_c2 12 rfl rfl
theorem wp_md_piece_d69 : decode prog_13_method_34_code 69 = .ok (.iconst 2, 1) := wt_op5 wb18m8_prog_13_method_34_code_c2 13 rfl rfl
theorem wp_md_piece_d70 : decode prog_13_method_34_code 70 = .ok (.invokevirtual 230, 3) := wt_op182 wb18m8_prog_13_method_34_code_c2 14 rfl rfl rfl
theorem wp_md_piece_d73 : decode prog_13_method_34_code 73 = .ok (.ifCond .eq 5, 3) := wt_op153 wb18m8_prog_13_method_34_code_c2 17 rfl rfl rfl
theorem wp_md_piece_d76 : decode prog_13_method_34_code 76 = .ok (.iconst 0, 1) := wt_op3 wb18m8_prog_13_method_34_code_c2 20 rfl rfl
theorem wp_md_piece_d77 : decode prog_13_method_34_code 77 = .ok (.ireturn, 1) := wt_op172 wb18m8_prog_13_method_34_code_c2 21 rfl rfl
theorem wp_md_piece_d78 : decode prog_13_method_34_code 78 = .ok (.iload_n 3, 1) := wt_op29 wb18m8_prog_13_method_34_code_c2 22 rfl rfl
theorem wp_md_piece_d79 : decode prog_13_method_34_code 79 = .ok (.ifCond .ne 16, 3) := wt_op154 wb18m8_prog_13_method_34_code_c2 23 rfl rfl rfl
theorem wp_md_piece_d82 : decode prog_13_method_34_code 82 = .ok (.aload_n 0, 1) := wt_op42 wb18m8_prog_13_method_34_code_c2 26 rfl rfl
theorem wp_md_piece_d83 : decode prog_13_method_34_code 83 = .ok (.getfield 50, 3) := wt_op180 wb18m8_prog_13_method_34_code_c2 27 rfl rfl rfl
theorem wp_md_piece_d86 : decode prog_13_method_34_code 86 = .ok (.iload_n 1, 1) := wt_op27 wb18m8_prog_13_method_34_code_c3 0 rfl rfl
theorem wp_md_piece_d87 : decode prog_13_method_34_code 87 = .ok (.iload_n 2, 1) := wt_op28 wb18m8_prog_13_method_34_code_c3 1 rfl rfl
theorem wp_md_piece_d88 : decode prog_13_method_34_code 88 = .ok (.invokestatic 227, 3) := wt_op184 wb18m8_prog_13_method_34_code_c3 2 rfl rfl rfl
theorem wp_md_piece_d91 : decode prog_13_method_34_code 91 = .ok (.iaload, 1) := wt_op46 wb18m8_prog_13_method_34_code_c3 5 rfl rfl
theorem wp_md_piece_d92 : decode prog_13_method_34_code 92 = .ok (.goto 13, 3) := wt_op167 wb18m8_prog_13_method_34_code_c3 6 rfl rfl rfl
theorem wp_md_piece_d95 : decode prog_13_method_34_code 95 = .ok (.aload_n 0, 1) := wt_op42 wb18m8_prog_13_method_34_code_c3 9 rfl rfl
theorem wp_md_piece_d96 : decode prog_13_method_34_code 96 = .ok (.getfield 59, 3) := wt_op180 wb18m8_prog_13_method_34_code_c3 10 rfl rfl rfl
theorem wp_md_piece_d99 : decode prog_13_method_34_code 99 = .ok (.iload_n 1, 1) := wt_op27 wb18m8_prog_13_method_34_code_c3 13 rfl rfl
theorem wp_md_piece_d100 : decode prog_13_method_34_code 100 = .ok (.iload_n 2, 1) := wt_op28 wb18m8_prog_13_method_34_code_c3 14 rfl rfl
theorem wp_md_piece_d101 : decode prog_13_method_34_code 101 = .ok (.invokestatic 227, 3) := wt_op184 wb18m8_prog_13_method_34_code_c3 15 rfl rfl rfl
theorem wp_md_piece_d104 : decode prog_13_method_34_code 104 = .ok (.iaload, 1) := wt_op46 wb18m8_prog_13_method_34_code_c3 18 rfl rfl
theorem wp_md_piece_d105 : decode prog_13_method_34_code 105 = .ok (.ireturn, 1) := wt_op172 wb18m8_prog_13_method_34_code_c3 19 rfl rfl
noncomputable def wp_md_piece_B69 (n : Nat) (x1 : Int32) (x2 : Int32) (x3 : Int32) (y1 : Int32) (σ : wt_St) : Option (Int32 × wt_St) :=
  (wp_md_bad n y1 (2 : Int32) σ).bind fun q12 =>
  if q12.1 = 0 then
    if x3 = 0 then
      (wp_md_cell n x1 x2 q12.2).bind fun q17 =>
      if q17.1 < 0 ∨ 338 ≤ Int32.toNatClampNeg q17.1 then none else
      some ((wt_ga q17.2 121 (Int32.toNatClampNeg q17.1)), q17.2)
    else
      (wp_md_cell n x1 x2 q12.2).bind fun q15 =>
      if q15.1 < 0 ∨ 338 ≤ Int32.toNatClampNeg q15.1 then none else
      some ((wt_ga q15.2 124 (Int32.toNatClampNeg q15.1)), q15.2)
  else
    some ((0 : Int32), q12.2)
set_option maxRecDepth 100000 in
set_option maxHeartbeats 4000000 in
theorem wp_md_piece_B69_ok  {x1 : Int32} {x2 : Int32} {x3 : Int32} {X : wt_X} {n : Nat} {res : Int32 × wt_St} (hE : wt_Ok X prog_13_method_34_code 4 "WornTypeModel" 2 0) (hR : wt_Rt X (some .int) (some res.1) res.2) (hD : ∀ i, 108 ≤ i → i < 321 → wt_dom (wt_xw X) i)  {σ : wt_St} {y1 : Int32} (h : wp_md_piece_B69 n x1 x2 x3 y1 σ = some res) : wt_V X 0 σ 69 [some (.ref (wt_ad (wt_xw X) 108)), some (.int x1), some (.int x2), some (.int x3)] [.int y1, .ref (wt_ad (wt_xw X) 108)] := by
  unfold wp_md_piece_B69 at h
  refine wt_iconst hE (2 : Int32) wp_md_piece_d69 wt_ci_2 ?_
  obtain ⟨q12, hq12, h⟩ := wt_bi h
  refine wt_callVi hE [.int y1, .int (2 : Int32)] wt_lm_md_230 wt_ya_md_bad (wp_md_bad_ok hD hq12) (by omega) (hD 108 (by decide) (by decide)) wt_L108 rfl rfl rfl (Nat.le_of_ble_eq_true rfl) (Nat.zero_le _) wp_md_piece_d70 (fun hbq12 => ?_)
  refine wt_if_eq hE 78 wp_md_piece_d73 rfl (fun c13 => ?_) (fun c13 => ?_)
  · have h := wt_ip c13 h
    refine wt_iload_n hE wp_md_piece_d78 rfl ?_
    refine wt_if_ne hE 95 wp_md_piece_d79 rfl (fun c14 => ?_) (fun c14 => ?_)
    · have h := wt_in c14 h
      refine wt_aload_n hE wp_md_piece_d95 rfl ?_
      refine wt_getr hE (r := 124) wt_lf_md_59 (hD 108 (by decide) (by decide)) wt_L108 rfl wp_md_piece_d96 ?_
      refine wt_iload_n hE wp_md_piece_d99 rfl ?_
      refine wt_iload_n hE wp_md_piece_d100 rfl ?_
      obtain ⟨q15, hq15, h⟩ := wt_bi h
      refine wt_callSi hE [.int x1, .int x2] wt_lm_md_227 wt_ya_md_cell (wp_md_cell_ok hq15) (by omega) rfl rfl (Nat.le_of_ble_eq_true rfl) (Nat.zero_le _) wp_md_piece_d101 (fun hbq15 => ?_)
      obtain ⟨g16, h⟩ := wt_gd h
      refine wt_iald hE (hD 124 (by decide) (by decide)) wt_L124 g16 wp_md_piece_d104 ?_
      cases h
      exact wt_iret hE hR wp_md_piece_d105
    · have h := wt_ip c14 h
      refine wt_aload_n hE wp_md_piece_d82 rfl ?_
      refine wt_getr hE (r := 121) wt_lf_md_50 (hD 108 (by decide) (by decide)) wt_L108 rfl wp_md_piece_d83 ?_
      refine wt_iload_n hE wp_md_piece_d86 rfl ?_
      refine wt_iload_n hE wp_md_piece_d87 rfl ?_
      obtain ⟨q17, hq17, h⟩ := wt_bi h
      refine wt_callSi hE [.int x1, .int x2] wt_lm_md_227 wt_ya_md_cell (wp_md_cell_ok hq17) (by omega) rfl rfl (Nat.le_of_ble_eq_true rfl) (Nat.zero_le _) wp_md_piece_d88 (fun hbq17 => ?_)
      obtain ⟨g18, h⟩ := wt_gd h
      refine wt_iald hE (hD 121 (by decide) (by decide)) wt_L121 g18 wp_md_piece_d91 ?_
      refine wt_goto hE 105 wp_md_piece_d92 rfl ?_
      cases h
      exact wt_iret hE hR wp_md_piece_d105
  · have h := wt_in c13 h
    refine wt_iconst hE (0 : Int32) wp_md_piece_d76 wt_ci_0 ?_
    cases h
    exact wt_iret hE hR wp_md_piece_d77
noncomputable def wp_md_piece_B47 (n : Nat) (x1 : Int32) (x2 : Int32) (x3 : Int32) (y1 : Int32) (σ : wt_St) : Option (Int32 × wt_St) :=
  (wp_md_bad n y1 (1 : Int32) σ).bind fun q8 =>
  if q8.1 = 0 then
    (wp_md_in n x3 (0 : Int32) (1 : Int32) q8.2).bind fun q10 =>
    if q10.1 = 0 then
      wp_md_piece_B69 n x1 x2 x3 (1 : Int32) q10.2
    else
      wp_md_piece_B69 n x1 x2 x3 (0 : Int32) q10.2
  else
    some ((0 : Int32), q8.2)
set_option maxRecDepth 100000 in
set_option maxHeartbeats 4000000 in
theorem wp_md_piece_B47_ok  {x1 : Int32} {x2 : Int32} {x3 : Int32} {X : wt_X} {n : Nat} {res : Int32 × wt_St} (hE : wt_Ok X prog_13_method_34_code 4 "WornTypeModel" 2 0) (hR : wt_Rt X (some .int) (some res.1) res.2) (hD : ∀ i, 108 ≤ i → i < 321 → wt_dom (wt_xw X) i)  {σ : wt_St} {y1 : Int32} (h : wp_md_piece_B47 n x1 x2 x3 y1 σ = some res) : wt_V X 0 σ 47 [some (.ref (wt_ad (wt_xw X) 108)), some (.int x1), some (.int x2), some (.int x3)] [.int y1, .ref (wt_ad (wt_xw X) 108)] := by
  unfold wp_md_piece_B47 at h
  refine wt_iconst hE (1 : Int32) wp_md_piece_d47 wt_ci_1 ?_
  obtain ⟨q8, hq8, h⟩ := wt_bi h
  refine wt_callVi hE [.int y1, .int (1 : Int32)] wt_lm_md_230 wt_ya_md_bad (wp_md_bad_ok hD hq8) (by omega) (hD 108 (by decide) (by decide)) wt_L108 rfl rfl rfl (Nat.le_of_ble_eq_true rfl) (Nat.zero_le _) wp_md_piece_d48 (fun hbq8 => ?_)
  refine wt_if_ne hE 76 wp_md_piece_d51 rfl (fun c9 => ?_) (fun c9 => ?_)
  · have h := wt_in c9 h
    refine wt_iconst hE (0 : Int32) wp_md_piece_d76 wt_ci_0 ?_
    cases h
    exact wt_iret hE hR wp_md_piece_d77
  · have h := wt_ip c9 h
    refine wt_aload_n hE wp_md_piece_d54 rfl ?_
    refine wt_iload_n hE wp_md_piece_d55 rfl ?_
    refine wt_iconst hE (0 : Int32) wp_md_piece_d56 wt_ci_0 ?_
    refine wt_iconst hE (1 : Int32) wp_md_piece_d57 wt_ci_1 ?_
    obtain ⟨q10, hq10, h⟩ := wt_bi h
    refine wt_callSi hE [.int x3, .int (0 : Int32), .int (1 : Int32)] wt_lm_md_185 wt_ya_md_in (wp_md_in_ok hq10) (by omega) rfl rfl (Nat.le_of_ble_eq_true rfl) (Nat.zero_le _) wp_md_piece_d58 (fun hbq10 => ?_)
    refine wt_if_ne hE 68 wp_md_piece_d61 rfl (fun c11 => ?_) (fun c11 => ?_)
    · have h := wt_in c11 h
      refine wt_iconst hE (0 : Int32) wp_md_piece_d68 wt_ci_0 ?_
      exact wp_md_piece_B69_ok hE hR hD h
    · have h := wt_ip c11 h
      refine wt_iconst hE (1 : Int32) wp_md_piece_d64 wt_ci_1 ?_
      refine wt_goto hE 69 wp_md_piece_d65 rfl ?_
      exact wp_md_piece_B69_ok hE hR hD h
noncomputable def wp_md_piece_B18 (n : Nat) (x1 : Int32) (x2 : Int32) (x3 : Int32) (y1 : Int32) (σ : wt_St) : Option (Int32 × wt_St) :=
  (wp_md_bad n y1 (2 : Int32) σ).bind fun q3 =>
  if q3.1 = 0 then
    if x1 < 0 ∨ 26 ≤ Int32.toNatClampNeg x1 then none else
    (wp_md_in n x2 (0 : Int32) ((wt_ga q3.2 111 (Int32.toNatClampNeg x1)) - (1 : Int32)) q3.2).bind fun q6 =>
    if q6.1 = 0 then
      wp_md_piece_B47 n x1 x2 x3 (1 : Int32) q6.2
    else
      wp_md_piece_B47 n x1 x2 x3 (0 : Int32) q6.2
  else
    some ((0 : Int32), q3.2)
set_option maxRecDepth 100000 in
set_option maxHeartbeats 4000000 in
theorem wp_md_piece_B18_ok  {x1 : Int32} {x2 : Int32} {x3 : Int32} {X : wt_X} {n : Nat} {res : Int32 × wt_St} (hE : wt_Ok X prog_13_method_34_code 4 "WornTypeModel" 2 0) (hR : wt_Rt X (some .int) (some res.1) res.2) (hD : ∀ i, 108 ≤ i → i < 321 → wt_dom (wt_xw X) i)  {σ : wt_St} {y1 : Int32} (h : wp_md_piece_B18 n x1 x2 x3 y1 σ = some res) : wt_V X 0 σ 18 [some (.ref (wt_ad (wt_xw X) 108)), some (.int x1), some (.int x2), some (.int x3)] [.int y1, .ref (wt_ad (wt_xw X) 108)] := by
  unfold wp_md_piece_B18 at h
  refine wt_iconst hE (2 : Int32) wp_md_piece_d18 wt_ci_2 ?_
  obtain ⟨q3, hq3, h⟩ := wt_bi h
  refine wt_callVi hE [.int y1, .int (2 : Int32)] wt_lm_md_230 wt_ya_md_bad (wp_md_bad_ok hD hq3) (by omega) (hD 108 (by decide) (by decide)) wt_L108 rfl rfl rfl (Nat.le_of_ble_eq_true rfl) (Nat.zero_le _) wp_md_piece_d19 (fun hbq3 => ?_)
  refine wt_if_ne hE 76 wp_md_piece_d22 rfl (fun c4 => ?_) (fun c4 => ?_)
  · have h := wt_in c4 h
    refine wt_iconst hE (0 : Int32) wp_md_piece_d76 wt_ci_0 ?_
    cases h
    exact wt_iret hE hR wp_md_piece_d77
  · have h := wt_ip c4 h
    refine wt_aload_n hE wp_md_piece_d25 rfl ?_
    refine wt_iload_n hE wp_md_piece_d26 rfl ?_
    refine wt_iconst hE (0 : Int32) wp_md_piece_d27 wt_ci_0 ?_
    refine wt_aload_n hE wp_md_piece_d28 rfl ?_
    refine wt_getr hE (r := 111) wt_lf_md_20 (hD 108 (by decide) (by decide)) wt_L108 rfl wp_md_piece_d29 ?_
    refine wt_iload_n hE wp_md_piece_d32 rfl ?_
    obtain ⟨g5, h⟩ := wt_gd h
    refine wt_iald hE (hD 111 (by decide) (by decide)) wt_L111 g5 wp_md_piece_d33 ?_
    refine wt_iconst hE (1 : Int32) wp_md_piece_d34 wt_ci_1 ?_
    refine wt_isub hE wp_md_piece_d35 ?_
    obtain ⟨q6, hq6, h⟩ := wt_bi h
    refine wt_callSi hE [.int x2, .int (0 : Int32), .int ((wt_ga q3.2 111 (Int32.toNatClampNeg x1)) - (1 : Int32))] wt_lm_md_185 wt_ya_md_in (wp_md_in_ok hq6) (by omega) rfl rfl (Nat.le_of_ble_eq_true rfl) (Nat.zero_le _) wp_md_piece_d36 (fun hbq6 => ?_)
    refine wt_if_ne hE 46 wp_md_piece_d39 rfl (fun c7 => ?_) (fun c7 => ?_)
    · have h := wt_in c7 h
      refine wt_iconst hE (0 : Int32) wp_md_piece_d46 wt_ci_0 ?_
      exact wp_md_piece_B47_ok hE hR hD h
    · have h := wt_ip c7 h
      refine wt_iconst hE (1 : Int32) wp_md_piece_d42 wt_ci_1 ?_
      refine wt_goto hE 47 wp_md_piece_d43 rfl ?_
      exact wp_md_piece_B47_ok hE hR hD h
noncomputable def wp_md_piece (n : Nat) (x1 : Int32) (x2 : Int32) (x3 : Int32) (σ : wt_St) : Option (Int32 × wt_St) :=
  (wp_md_isLetter n x1 (wt_sf σ 108 0 (0 : Int32))).bind fun q1 =>
  if q1.1 = 0 then
    wp_md_piece_B18 n x1 x2 x3 (1 : Int32) q1.2
  else
    wp_md_piece_B18 n x1 x2 x3 (0 : Int32) q1.2
set_option maxRecDepth 100000 in
set_option maxHeartbeats 4000000 in
theorem wp_md_piece_ok {l : Launch} {w : wt_E} {n : Nat} {x1 : Int32} {x2 : Int32} {x3 : Int32} (hD : ∀ i, 108 ≤ i → i < 321 → wt_dom w i) {σ : wt_St} {q : Int32 × wt_St} (h : wp_md_piece n x1 x2 x3 σ = some q) : wt_Ctr l w wt_y_md_piece prog_13_method_34_code 4 (some .int) 2 [.ref (wt_ad w 108), .int x1, .int x2, .int x3] σ (some q.1) q.2 := by
  refine wt_ctr wt_pl_md_piece rfl (Nat.le_of_ble_eq_true rfl) [some (.ref (wt_ad w 108)), some (.int x1), some (.int x2), some (.int x3)] rfl ?_
  intro X hXl hXw hE hR
  subst hXl
  subst hXw
  have hE : wt_Ok X prog_13_method_34_code 4 "WornTypeModel" 2 0 := hE
  unfold wp_md_piece at h
  refine wt_aload_n hE wp_md_piece_d0 rfl ?_
  refine wt_iconst hE (0 : Int32) wp_md_piece_d1 wt_ci_0 ?_
  refine wt_puti hE wt_lf_md_151 (hD 108 (by decide) (by decide)) wt_L108 rfl (fun q hq => by cases hq; rfl) wp_md_piece_d2 ?_
  refine wt_aload_n hE wp_md_piece_d5 rfl ?_
  refine wt_iload_n hE wp_md_piece_d6 rfl ?_
  obtain ⟨q1, hq1, h⟩ := wt_bi h
  refine wt_callSi hE [.int x1] wt_lm_md_280 wt_ya_md_isLetter (wp_md_isLetter_ok hq1) (by omega) rfl rfl (Nat.le_of_ble_eq_true rfl) (Nat.zero_le _) wp_md_piece_d7 (fun hbq1 => ?_)
  refine wt_if_ne hE 17 wp_md_piece_d10 rfl (fun c2 => ?_) (fun c2 => ?_)
  · have h := wt_in c2 h
    refine wt_iconst hE (0 : Int32) wp_md_piece_d17 wt_ci_0 ?_
    exact wp_md_piece_B18_ok hE hR hD h
  · have h := wt_ip c2 h
    refine wt_iconst hE (1 : Int32) wp_md_piece_d13 wt_ci_1 ?_
    refine wt_goto hE 18 wp_md_piece_d14 rfl ?_
    exact wp_md_piece_B18_ok hE hR hD h
def wb18m8_prog_13_method_57_code_r4 : List (List Nat) := [3, 96, 62, 132, 4, 1, 167, 255, 199, 29, 172] :: []
def wb18m8_prog_13_method_57_code_r3 : List (List Nat) := [21, 4, 46, 92, 46, 28, 100, 79, 29, 42, 180, 0, 50, 42, 180, 0, 106, 27, 50, 21, 4, 46, 46, 154, 0, 7, 4, 167, 0, 4] :: wb18m8_prog_13_method_57_code_r4
def wb18m8_prog_13_method_57_code_r2 : List (List Nat) := [2, 172, 3, 62, 3, 54, 4, 21, 4, 42, 180, 0, 103, 27, 46, 162, 0, 52, 42, 180, 0, 50, 42, 180, 0, 106, 27, 50] :: wb18m8_prog_13_method_57_code_r3
def wb18m8_prog_13_method_57_code_r1 : List (List Nat) := [184, 1, 57, 154, 0, 7, 4, 167, 0, 4, 3, 5, 182, 0, 230, 153, 0, 5, 3, 172, 42, 27, 182, 1, 73, 28, 162, 0, 5] :: wb18m8_prog_13_method_57_code_r2
def wb18m8_prog_13_method_57_code_r0 : List (List Nat) := [42, 3, 181, 0, 151, 42, 42, 27, 182, 1, 70, 154, 0, 7, 4, 167, 0, 4, 3, 4, 182, 0, 230, 154, 0, 23, 42, 28] :: wb18m8_prog_13_method_57_code_r1
set_option maxRecDepth 100000 in
theorem wb18m8_prog_13_method_57_code_c0 : wt_cs prog_13_method_57_code 0 wb18m8_prog_13_method_57_code_r0 := wt_cs_of (by decide +kernel)
theorem wb18m8_prog_13_method_57_code_c1 : wt_cs prog_13_method_57_code 28 wb18m8_prog_13_method_57_code_r1 := wt_cs_tl (m := 28) wb18m8_prog_13_method_57_code_c0 rfl rfl
theorem wb18m8_prog_13_method_57_code_c2 : wt_cs prog_13_method_57_code 57 wb18m8_prog_13_method_57_code_r2 := wt_cs_tl (m := 29) wb18m8_prog_13_method_57_code_c1 rfl rfl
theorem wb18m8_prog_13_method_57_code_c3 : wt_cs prog_13_method_57_code 85 wb18m8_prog_13_method_57_code_r3 := wt_cs_tl (m := 28) wb18m8_prog_13_method_57_code_c2 rfl rfl
theorem wb18m8_prog_13_method_57_code_c4 : wt_cs prog_13_method_57_code 115 wb18m8_prog_13_method_57_code_r4 := wt_cs_tl (m := 30) wb18m8_prog_13_method_57_code_c3 rfl rfl
theorem wp_md_print_d0 : decode prog_13_method_57_code 0 = .ok (.aload_n 0, 1) := wt_op42 wb18m8_prog_13_method_57_code_c0 0 rfl rfl
theorem wp_md_print_d1 : decode prog_13_method_57_code 1 = .ok (.iconst 0, 1) := wt_op3 wb18m8_prog_13_method_57_code_c0 1 rfl rfl
theorem wp_md_print_d2 : decode prog_13_method_57_code 2 = .ok (.putfield 151, 3) := wt_op181 wb18m8_prog_13_method_57_code_c0 2 rfl rfl rfl
theorem wp_md_print_d5 : decode prog_13_method_57_code 5 = .ok (.aload_n 0, 1) := wt_op42 wb18m8_prog_13_method_57_code_c0 5 rfl rfl
theorem wp_md_print_d6 : decode prog_13_method_57_code 6 = .ok (.aload_n 0, 1) := wt_op42 wb18m8_prog_13_method_57_code_c0 6 rfl rfl
theorem wp_md_print_d7 : decode prog_13_method_57_code 7 = .ok (.iload_n 1, 1) := wt_op27 wb18m8_prog_13_method_57_code_c0 7 rfl rfl
theorem wp_md_print_d8 : decode prog_13_method_57_code 8 = .ok (.invokevirtual 326, 3) := wt_op182 wb18m8_prog_13_method_57_code_c0 8 rfl rfl rfl
theorem wp_md_print_d11 : decode prog_13_method_57_code 11 = .ok (.ifCond .ne 7, 3) := wt_op154 wb18m8_prog_13_method_57_code_c0 11 rfl rfl rfl
theorem wp_md_print_d14 : decode prog_13_method_57_code 14 = .ok (.iconst 1, 1) := wt_op4 wb18m8_prog_13_method_57_code_c0 14 rfl rfl
theorem wp_md_print_d15 : decode prog_13_method_57_code 15 = .ok (.goto 4, 3) := wt_op167 wb18m8_prog_13_method_57_code_c0 15 rfl rfl rfl
theorem wp_md_print_d18 : decode prog_13_method_57_code 18 = .ok (.iconst 0, 1) := wt_op3 wb18m8_prog_13_method_57_code_c0 18 rfl rfl
theorem wp_md_print_d19 : decode prog_13_method_57_code 19 = .ok (.iconst 1, 1) := wt_op4 wb18m8_prog_13_method_57_code_c0 19 rfl rfl
theorem wp_md_print_d20 : decode prog_13_method_57_code 20 = .ok (.invokevirtual 230, 3) := wt_op182 wb18m8_prog_13_method_57_code_c0 20 rfl rfl rfl
theorem wp_md_print_d23 : decode prog_13_method_57_code 23 = .ok (.ifCond .ne 23, 3) := wt_op154 wb18m8_prog_13_method_57_code_c0 23 rfl rfl rfl
theorem wp_md_print_d26 : decode prog_13_method_57_code 26 = .ok (.aload_n 0, 1) := wt_op42 wb18m8_prog_13_method_57_code_c0 26 rfl rfl
theorem wp_md_print_d27 : decode prog_13_method_57_code 27 = .ok (.iload_n 2, 1) := wt_op28 wb18m8_prog_13_method_57_code_c0 27 rfl rfl
theorem wp_md_print_d28 : decode prog_13_method_57_code 28 = .ok (.invokestatic 313, 3) := wt_op184 wb18m8_prog_13_method_57_code_c1 0 rfl rfl rfl
theorem wp_md_print_d31 : decode prog_13_method_57_code 31 = .ok (.ifCond .ne 7, 3) := wt_op154 wb18m8_prog_13_method_57_code_c1 3 rfl rfl rfl
theorem wp_md_print_d34 : decode prog_13_method_57_code 34 = .ok (.iconst 1, 1) := wt_op4 wb18m8_prog_13_method_57_code_c1 6 rfl rfl
theorem wp_md_print_d35 : decode prog_13_method_57_code 35 = .ok (.goto 4, 3) := wt_op167 wb18m8_prog_13_method_57_code_c1 7 rfl rfl rfl
theorem wp_md_print_d38 : decode prog_13_method_57_code 38 = .ok (.iconst 0, 1) := wt_op3 wb18m8_prog_13_method_57_code_c1 10 rfl rfl
theorem wp_md_print_d39 : decode prog_13_method_57_code 39 = .ok (.iconst 2, 1) := wt_op5 wb18m8_prog_13_method_57_code_c1 11 rfl rfl
theorem wp_md_print_d40 : decode prog_13_method_57_code 40 = .ok (.invokevirtual 230, 3) := wt_op182 wb18m8_prog_13_method_57_code_c1 12 rfl rfl rfl
theorem wp_md_print_d43 : decode prog_13_method_57_code 43 = .ok (.ifCond .eq 5, 3) := wt_op153 wb18m8_prog_13_method_57_code_c1 15 rfl rfl rfl
theorem wp_md_print_d46 : decode prog_13_method_57_code 46 = .ok (.iconst 0, 1) := wt_op3 wb18m8_prog_13_method_57_code_c1 18 rfl rfl
theorem wp_md_print_d47 : decode prog_13_method_57_code 47 = .ok (.ireturn, 1) := wt_op172 wb18m8_prog_13_method_57_code_c1 19 rfl rfl
theorem wp_md_print_d48 : decode prog_13_method_57_code 48 = .ok (.aload_n 0, 1) := wt_op42 wb18m8_prog_13_method_57_code_c1 20 rfl rfl
theorem wp_md_print_d49 : decode prog_13_method_57_code 49 = .ok (.iload_n 1, 1) := wt_op27 wb18m8_prog_13_method_57_code_c1 21 rfl rfl
theorem wp_md_print_d50 : decode prog_13_method_57_code 50 = .ok (.invokevirtual 329, 3) := wt_op182 wb18m8_prog_13_method_57_code_c1 22 rfl rfl rfl
theorem wp_md_print_d53 : decode prog_13_method_57_code 53 = .ok (.iload_n 2, 1) := wt_op28 wb18m8_prog_13_method_57_code_c1 25 rfl rfl
theorem wp_md_print_d54 : decode prog_13_method_57_code 54 = .ok (.if_icmp .ge 5, 3) := wt_op162 wb18m8_prog_13_method_57_code_c1 26 rfl rfl rfl
theorem wp_md_print_d57 : decode prog_13_method_57_code 57 = .ok (.iconst (-1), 1) := wt_op2 wb18m8_prog_13_method_57_code_c2 0 rfl rfl
theorem wp_md_print_d58 : decode prog_13_method_57_code 58 = .ok (.ireturn, 1) := wt_op172 wb18m8_prog_13_method_57_code_c2 1 rfl rfl
theorem wp_md_print_d59 : decode prog_13_method_57_code 59 = .ok (.iconst 0, 1) := wt_op3 wb18m8_prog_13_method_57_code_c2 2 rfl rfl
theorem wp_md_print_d60 : decode prog_13_method_57_code 60 = .ok (.istore_n 3, 1) := wt_op62 wb18m8_prog_13_method_57_code_c2 3 rfl rfl
theorem wp_md_print_d61 : decode prog_13_method_57_code 61 = .ok (.iconst 0, 1) := wt_op3 wb18m8_prog_13_method_57_code_c2 4 rfl rfl
theorem wp_md_print_d62 : decode prog_13_method_57_code 62 = .ok (.istore 4, 2) := wt_op54 wb18m8_prog_13_method_57_code_c2 5 rfl rfl
theorem wp_md_print_d64 : decode prog_13_method_57_code 64 = .ok (.iload 4, 2) := wt_op21 wb18m8_prog_13_method_57_code_c2 7 rfl rfl
theorem wp_md_print_d66 : decode prog_13_method_57_code 66 = .ok (.aload_n 0, 1) := wt_op42 wb18m8_prog_13_method_57_code_c2 9 rfl rfl
theorem wp_md_print_d67 : decode prog_13_method_57_code 67 = .ok (.getfield 103, 3) := wt_op180 wb18m8_prog_13_method_57_code_c2 10 rfl rfl rfl
theorem wp_md_print_d70 : decode prog_13_method_57_code 70 = .ok (.iload_n 1, 1) := wt_op27 wb18m8_prog_13_method_57_code_c2 13 rfl rfl
theorem wp_md_print_d71 : decode prog_13_method_57_code 71 = .ok (.iaload, 1) := wt_op46 wb18m8_prog_13_method_57_code_c2 14 rfl rfl
theorem wp_md_print_d72 : decode prog_13_method_57_code 72 = .ok (.if_icmp .ge 52, 3) := wt_op162 wb18m8_prog_13_method_57_code_c2 15 rfl rfl rfl
theorem wp_md_print_d75 : decode prog_13_method_57_code 75 = .ok (.aload_n 0, 1) := wt_op42 wb18m8_prog_13_method_57_code_c2 18 rfl rfl
theorem wp_md_print_d76 : decode prog_13_method_57_code 76 = .ok (.getfield 50, 3) := wt_op180 wb18m8_prog_13_method_57_code_c2 19 rfl rfl rfl
theorem wp_md_print_d79 : decode prog_13_method_57_code 79 = .ok (.aload_n 0, 1) := wt_op42 wb18m8_prog_13_method_57_code_c2 22 rfl rfl
theorem wp_md_print_d80 : decode prog_13_method_57_code 80 = .ok (.getfield 106, 3) := wt_op180 wb18m8_prog_13_method_57_code_c2 23 rfl rfl rfl
theorem wp_md_print_d83 : decode prog_13_method_57_code 83 = .ok (.iload_n 1, 1) := wt_op27 wb18m8_prog_13_method_57_code_c2 26 rfl rfl
theorem wp_md_print_d84 : decode prog_13_method_57_code 84 = .ok (.aaload, 1) := wt_op50 wb18m8_prog_13_method_57_code_c2 27 rfl rfl
theorem wp_md_print_d85 : decode prog_13_method_57_code 85 = .ok (.iload 4, 2) := wt_op21 wb18m8_prog_13_method_57_code_c3 0 rfl rfl
theorem wp_md_print_d87 : decode prog_13_method_57_code 87 = .ok (.iaload, 1) := wt_op46 wb18m8_prog_13_method_57_code_c3 2 rfl rfl
theorem wp_md_print_d88 : decode prog_13_method_57_code 88 = .ok (.dup2, 1) := wt_op92 wb18m8_prog_13_method_57_code_c3 3 rfl rfl
theorem wp_md_print_d89 : decode prog_13_method_57_code 89 = .ok (.iaload, 1) := wt_op46 wb18m8_prog_13_method_57_code_c3 4 rfl rfl
theorem wp_md_print_d90 : decode prog_13_method_57_code 90 = .ok (.iload_n 2, 1) := wt_op28 wb18m8_prog_13_method_57_code_c3 5 rfl rfl
theorem wp_md_print_d91 : decode prog_13_method_57_code 91 = .ok (.isub, 1) := wt_op100 wb18m8_prog_13_method_57_code_c3 6 rfl rfl
theorem wp_md_print_d92 : decode prog_13_method_57_code 92 = .ok (.iastore, 1) := wt_op79 wb18m8_prog_13_method_57_code_c3 7 rfl rfl
theorem wp_md_print_d93 : decode prog_13_method_57_code 93 = .ok (.iload_n 3, 1) := wt_op29 wb18m8_prog_13_method_57_code_c3 8 rfl rfl
theorem wp_md_print_d94 : decode prog_13_method_57_code 94 = .ok (.aload_n 0, 1) := wt_op42 wb18m8_prog_13_method_57_code_c3 9 rfl rfl
theorem wp_md_print_d95 : decode prog_13_method_57_code 95 = .ok (.getfield 50, 3) := wt_op180 wb18m8_prog_13_method_57_code_c3 10 rfl rfl rfl
theorem wp_md_print_d98 : decode prog_13_method_57_code 98 = .ok (.aload_n 0, 1) := wt_op42 wb18m8_prog_13_method_57_code_c3 13 rfl rfl
theorem wp_md_print_d99 : decode prog_13_method_57_code 99 = .ok (.getfield 106, 3) := wt_op180 wb18m8_prog_13_method_57_code_c3 14 rfl rfl rfl
theorem wp_md_print_d102 : decode prog_13_method_57_code 102 = .ok (.iload_n 1, 1) := wt_op27 wb18m8_prog_13_method_57_code_c3 17 rfl rfl
theorem wp_md_print_d103 : decode prog_13_method_57_code 103 = .ok (.aaload, 1) := wt_op50 wb18m8_prog_13_method_57_code_c3 18 rfl rfl
theorem wp_md_print_d104 : decode prog_13_method_57_code 104 = .ok (.iload 4, 2) := wt_op21 wb18m8_prog_13_method_57_code_c3 19 rfl rfl
theorem wp_md_print_d106 : decode prog_13_method_57_code 106 = .ok (.iaload, 1) := wt_op46 wb18m8_prog_13_method_57_code_c3 21 rfl rfl
theorem wp_md_print_d107 : decode prog_13_method_57_code 107 = .ok (.iaload, 1) := wt_op46 wb18m8_prog_13_method_57_code_c3 22 rfl rfl
theorem wp_md_print_d108 : decode prog_13_method_57_code 108 = .ok (.ifCond .ne 7, 3) := wt_op154 wb18m8_prog_13_method_57_code_c3 23 rfl rfl rfl
theorem wp_md_print_d111 : decode prog_13_method_57_code 111 = .ok (.iconst 1, 1) := wt_op4 wb18m8_prog_13_method_57_code_c3 26 rfl rfl
theorem wp_md_print_d112 : decode prog_13_method_57_code 112 = .ok (.goto 4, 3) := wt_op167 wb18m8_prog_13_method_57_code_c3 27 rfl rfl rfl
theorem wp_md_print_d115 : decode prog_13_method_57_code 115 = .ok (.iconst 0, 1) := wt_op3 wb18m8_prog_13_method_57_code_c4 0 rfl rfl
theorem wp_md_print_d116 : decode prog_13_method_57_code 116 = .ok (.iadd, 1) := wt_op96 wb18m8_prog_13_method_57_code_c4 1 rfl rfl
theorem wp_md_print_d117 : decode prog_13_method_57_code 117 = .ok (.istore_n 3, 1) := wt_op62 wb18m8_prog_13_method_57_code_c4 2 rfl rfl
theorem wp_md_print_d118 : decode prog_13_method_57_code 118 = .ok (.iinc 4 1, 3) := wt_op132 wb18m8_prog_13_method_57_code_c4 3 rfl rfl rfl
theorem wp_md_print_d121 : decode prog_13_method_57_code 121 = .ok (.goto (-57), 3) := wt_op167 wb18m8_prog_13_method_57_code_c4 6 rfl rfl rfl
theorem wp_md_print_d124 : decode prog_13_method_57_code 124 = .ok (.iload_n 3, 1) := wt_op29 wb18m8_prog_13_method_57_code_c4 9 rfl rfl
theorem wp_md_print_d125 : decode prog_13_method_57_code 125 = .ok (.ireturn, 1) := wt_op172 wb18m8_prog_13_method_57_code_c4 10 rfl rfl
noncomputable def wp_md_print_B116 (n : Nat) (x1 : Int32) (x2 : Int32) (x4 : Int32) (K64 : Int32 × Int32 × wt_St → Option (Int32 × wt_St)) (y0 : Int32) (y1 : Int32) (σ : wt_St) : Option (Int32 × wt_St) :=
  K64 ((y0 + y1), (x4 + (1 : Int32)), σ)
set_option maxRecDepth 100000 in
set_option maxHeartbeats 4000000 in
theorem wp_md_print_B116_ok  {x1 : Int32} {x2 : Int32} {x4 : Int32} {X : wt_X} {n : Nat} {res : Int32 × wt_St} (hE : wt_Ok X prog_13_method_57_code 5 "WornTypeModel" 2 0) (hR : wt_Rt X (some .int) (some res.1) res.2) (hD : ∀ i, 108 ≤ i → i < 321 → wt_dom (wt_xw X) i)  {K64 : Int32 × Int32 × wt_St → Option (Int32 × wt_St)} (hK64 : ∀ s : Int32 × Int32 × wt_St, K64 s = some res → wt_V X 0 s.2.2 64 [some (.ref (wt_ad (wt_xw X) 108)), some (.int x1), some (.int x2), some (.int s.1), some (.int s.2.1)] []) {σ : wt_St} {y0 : Int32} {y1 : Int32} (h : wp_md_print_B116 n x1 x2 x4 K64 y0 y1 σ = some res) : wt_V X 0 σ 116 [some (.ref (wt_ad (wt_xw X) 108)), some (.int x1), some (.int x2), none, some (.int x4)] [.int y1, .int y0] := by
  unfold wp_md_print_B116 at h
  refine wt_iadd hE wp_md_print_d116 ?_
  refine wt_istore_n hE [some (.ref (wt_ad (wt_xw X) 108)), some (.int x1), some (.int x2), some (.int (y0 + y1)), some (.int x4)] wp_md_print_d117 (by decide) rfl ?_
  refine wt_iinc hE (x4 + (1 : Int32)) [some (.ref (wt_ad (wt_xw X) 108)), some (.int x1), some (.int x2), some (.int (y0 + y1)), some (.int (x4 + (1 : Int32)))] wp_md_print_d118 (by decide) rfl rfl rfl ?_
  refine wt_goto hE 64 wp_md_print_d121 rfl ?_
  exact hK64 ((y0 + y1), (x4 + (1 : Int32)), σ) h
noncomputable def wp_md_print_B64 (n : Nat) (x1 : Int32) (x2 : Int32) (K64 : Int32 × Int32 × wt_St → Option (Int32 × wt_St)) (s : Int32 × Int32 × wt_St) : Option (Int32 × wt_St) :=
  if x1 < 0 ∨ 4 ≤ Int32.toNatClampNeg x1 then none else
  if (wt_ga s.2.2 276 (Int32.toNatClampNeg x1)) ≤ s.2.1 then
    some (s.1, s.2.2)
  else
    if x1 < 0 ∨ 4 ≤ Int32.toNatClampNeg x1 then none else
    if s.2.1 < 0 ∨ 108 ≤ Int32.toNatClampNeg s.2.1 then none else
    if (wt_ga s.2.2 (278 + Int32.toNatClampNeg x1) (Int32.toNatClampNeg s.2.1)) < 0 ∨ 338 ≤ Int32.toNatClampNeg (wt_ga s.2.2 (278 + Int32.toNatClampNeg x1) (Int32.toNatClampNeg s.2.1)) then none else
    if (wt_ga s.2.2 (278 + Int32.toNatClampNeg x1) (Int32.toNatClampNeg s.2.1)) < 0 ∨ 338 ≤ Int32.toNatClampNeg (wt_ga s.2.2 (278 + Int32.toNatClampNeg x1) (Int32.toNatClampNeg s.2.1)) then none else
    if x1 < 0 ∨ 4 ≤ Int32.toNatClampNeg x1 then none else
    if s.2.1 < 0 ∨ 108 ≤ Int32.toNatClampNeg s.2.1 then none else
    if (wt_ga (wt_sa s.2.2 121 (Int32.toNatClampNeg (wt_ga s.2.2 (278 + Int32.toNatClampNeg x1) (Int32.toNatClampNeg s.2.1))) ((wt_ga s.2.2 121 (Int32.toNatClampNeg (wt_ga s.2.2 (278 + Int32.toNatClampNeg x1) (Int32.toNatClampNeg s.2.1)))) - x2)) (278 + Int32.toNatClampNeg x1) (Int32.toNatClampNeg s.2.1)) < 0 ∨ 338 ≤ Int32.toNatClampNeg (wt_ga (wt_sa s.2.2 121 (Int32.toNatClampNeg (wt_ga s.2.2 (278 + Int32.toNatClampNeg x1) (Int32.toNatClampNeg s.2.1))) ((wt_ga s.2.2 121 (Int32.toNatClampNeg (wt_ga s.2.2 (278 + Int32.toNatClampNeg x1) (Int32.toNatClampNeg s.2.1)))) - x2)) (278 + Int32.toNatClampNeg x1) (Int32.toNatClampNeg s.2.1)) then none else
    if (wt_ga (wt_sa s.2.2 121 (Int32.toNatClampNeg (wt_ga s.2.2 (278 + Int32.toNatClampNeg x1) (Int32.toNatClampNeg s.2.1))) ((wt_ga s.2.2 121 (Int32.toNatClampNeg (wt_ga s.2.2 (278 + Int32.toNatClampNeg x1) (Int32.toNatClampNeg s.2.1)))) - x2)) 121 (Int32.toNatClampNeg (wt_ga (wt_sa s.2.2 121 (Int32.toNatClampNeg (wt_ga s.2.2 (278 + Int32.toNatClampNeg x1) (Int32.toNatClampNeg s.2.1))) ((wt_ga s.2.2 121 (Int32.toNatClampNeg (wt_ga s.2.2 (278 + Int32.toNatClampNeg x1) (Int32.toNatClampNeg s.2.1)))) - x2)) (278 + Int32.toNatClampNeg x1) (Int32.toNatClampNeg s.2.1)))) = 0 then
      wp_md_print_B116 n x1 x2 s.2.1 K64 s.1 (1 : Int32) (wt_sa s.2.2 121 (Int32.toNatClampNeg (wt_ga s.2.2 (278 + Int32.toNatClampNeg x1) (Int32.toNatClampNeg s.2.1))) ((wt_ga s.2.2 121 (Int32.toNatClampNeg (wt_ga s.2.2 (278 + Int32.toNatClampNeg x1) (Int32.toNatClampNeg s.2.1)))) - x2))
    else
      wp_md_print_B116 n x1 x2 s.2.1 K64 s.1 (0 : Int32) (wt_sa s.2.2 121 (Int32.toNatClampNeg (wt_ga s.2.2 (278 + Int32.toNatClampNeg x1) (Int32.toNatClampNeg s.2.1))) ((wt_ga s.2.2 121 (Int32.toNatClampNeg (wt_ga s.2.2 (278 + Int32.toNatClampNeg x1) (Int32.toNatClampNeg s.2.1)))) - x2))
set_option maxRecDepth 100000 in
set_option maxHeartbeats 4000000 in
theorem wp_md_print_B64_ok  {x1 : Int32} {x2 : Int32} {X : wt_X} {n : Nat} {res : Int32 × wt_St} (hE : wt_Ok X prog_13_method_57_code 5 "WornTypeModel" 2 0) (hR : wt_Rt X (some .int) (some res.1) res.2) (hD : ∀ i, 108 ≤ i → i < 321 → wt_dom (wt_xw X) i)  {K64 : Int32 × Int32 × wt_St → Option (Int32 × wt_St)} (hK64 : ∀ s : Int32 × Int32 × wt_St, K64 s = some res → wt_V X 0 s.2.2 64 [some (.ref (wt_ad (wt_xw X) 108)), some (.int x1), some (.int x2), some (.int s.1), some (.int s.2.1)] []) {s : Int32 × Int32 × wt_St} (h : wp_md_print_B64 n x1 x2 K64 s = some res) : wt_V X 0 s.2.2 64 [some (.ref (wt_ad (wt_xw X) 108)), some (.int x1), some (.int x2), some (.int s.1), some (.int s.2.1)] [] := by
  unfold wp_md_print_B64 at h
  refine wt_iload hE wp_md_print_d64 rfl ?_
  refine wt_aload_n hE wp_md_print_d66 rfl ?_
  refine wt_getr hE (r := 276) wt_lf_md_103 (hD 108 (by decide) (by decide)) wt_L108 rfl wp_md_print_d67 ?_
  refine wt_iload_n hE wp_md_print_d70 rfl ?_
  obtain ⟨g11, h⟩ := wt_gd h
  refine wt_iald hE (hD 276 (by decide) (by decide)) wt_L276 g11 wp_md_print_d71 ?_
  refine wt_icmp_ge hE 124 wp_md_print_d72 rfl (fun c12 => ?_) (fun c12 => ?_)
  · have h := wt_ip c12 h
    refine wt_iload_n hE wp_md_print_d124 rfl ?_
    cases h
    exact wt_iret hE hR wp_md_print_d125
  · have h := wt_in c12 h
    refine wt_aload_n hE wp_md_print_d75 rfl ?_
    refine wt_getr hE (r := 121) wt_lf_md_50 (hD 108 (by decide) (by decide)) wt_L108 rfl wp_md_print_d76 ?_
    refine wt_aload_n hE wp_md_print_d79 rfl ?_
    refine wt_getr hE (r := 277) wt_lf_md_106 (hD 108 (by decide) (by decide)) wt_L108 rfl wp_md_print_d80 ?_
    refine wt_iload_n hE wp_md_print_d83 rfl ?_
    obtain ⟨g13, h⟩ := wt_gd h
    have lg13 := wt_lt g13
    refine wt_aald1 hE (hD 277 (by decide) (by decide)) wt_L277 g13 wp_md_print_d84 ?_
    refine wt_iload hE wp_md_print_d85 rfl ?_
    obtain ⟨g14, h⟩ := wt_gd h
    refine wt_iald hE (hD _ (by omega) (by omega)) (wt_G278 _ lg13) g14 wp_md_print_d87 ?_
    refine wt_dup2 hE wp_md_print_d88 rfl rfl ?_
    obtain ⟨g15, h⟩ := wt_gd h
    refine wt_iald hE (hD 121 (by decide) (by decide)) wt_L121 g15 wp_md_print_d89 ?_
    refine wt_iload_n hE wp_md_print_d90 rfl ?_
    refine wt_isub hE wp_md_print_d91 ?_
    obtain ⟨g16, h⟩ := wt_gd h
    refine wt_iast hE (hD 121 (by decide) (by decide)) wt_L121 g16 wp_md_print_d92 ?_
    refine wt_iload_n hE wp_md_print_d93 rfl ?_
    refine wt_aload_n hE wp_md_print_d94 rfl ?_
    refine wt_getr hE (r := 121) wt_lf_md_50 (hD 108 (by decide) (by decide)) wt_L108 rfl wp_md_print_d95 ?_
    refine wt_aload_n hE wp_md_print_d98 rfl ?_
    refine wt_getr hE (r := 277) wt_lf_md_106 (hD 108 (by decide) (by decide)) wt_L108 rfl wp_md_print_d99 ?_
    refine wt_iload_n hE wp_md_print_d102 rfl ?_
    obtain ⟨g17, h⟩ := wt_gd h
    have lg17 := wt_lt g17
    refine wt_aald1 hE (hD 277 (by decide) (by decide)) wt_L277 g17 wp_md_print_d103 ?_
    refine wt_iload hE wp_md_print_d104 rfl ?_
    obtain ⟨g18, h⟩ := wt_gd h
    refine wt_iald hE (hD _ (by omega) (by omega)) (wt_G278 _ lg17) g18 wp_md_print_d106 ?_
    obtain ⟨g19, h⟩ := wt_gd h
    refine wt_iald hE (hD 121 (by decide) (by decide)) wt_L121 g19 wp_md_print_d107 ?_
    refine wt_if_ne hE 115 wp_md_print_d108 rfl (fun c20 => ?_) (fun c20 => ?_)
    · have h := wt_in c20 h
      refine wt_iconst hE (0 : Int32) wp_md_print_d115 wt_ci_0 ?_
      refine wt_wk [true, true, true, false, true] rfl ?_
      exact wp_md_print_B116_ok hE hR hD hK64 h
    · have h := wt_ip c20 h
      refine wt_iconst hE (1 : Int32) wp_md_print_d111 wt_ci_1 ?_
      refine wt_goto hE 116 wp_md_print_d112 rfl ?_
      refine wt_wk [true, true, true, false, true] rfl ?_
      exact wp_md_print_B116_ok hE hR hD hK64 h
noncomputable def wp_md_print_B39 (n : Nat) (x1 : Int32) (x2 : Int32) (y1 : Int32) (σ : wt_St) : Option (Int32 × wt_St) :=
  (wp_md_bad n y1 (2 : Int32) σ).bind fun q7 =>
  if q7.1 = 0 then
    (wp_md_leastOf n x1 q7.2).bind fun q9 =>
    if x2 ≤ q9.1 then
      wt_it (wp_md_print_B64 n x1 x2) n ((0 : Int32), (0 : Int32), q9.2)
    else
      some ((-1 : Int32), q9.2)
  else
    some ((0 : Int32), q7.2)
set_option maxRecDepth 100000 in
set_option maxHeartbeats 4000000 in
theorem wp_md_print_B39_ok  {x1 : Int32} {x2 : Int32} {X : wt_X} {n : Nat} {res : Int32 × wt_St} (hE : wt_Ok X prog_13_method_57_code 5 "WornTypeModel" 2 0) (hR : wt_Rt X (some .int) (some res.1) res.2) (hD : ∀ i, 108 ≤ i → i < 321 → wt_dom (wt_xw X) i)  {σ : wt_St} {y1 : Int32} (h : wp_md_print_B39 n x1 x2 y1 σ = some res) : wt_V X 0 σ 39 [some (.ref (wt_ad (wt_xw X) 108)), some (.int x1), some (.int x2), none, none] [.int y1, .ref (wt_ad (wt_xw X) 108)] := by
  unfold wp_md_print_B39 at h
  refine wt_iconst hE (2 : Int32) wp_md_print_d39 wt_ci_2 ?_
  obtain ⟨q7, hq7, h⟩ := wt_bi h
  refine wt_callVi hE [.int y1, .int (2 : Int32)] wt_lm_md_230 wt_ya_md_bad (wp_md_bad_ok hD hq7) (by omega) (hD 108 (by decide) (by decide)) wt_L108 rfl rfl rfl (Nat.le_of_ble_eq_true rfl) (Nat.zero_le _) wp_md_print_d40 (fun hbq7 => ?_)
  refine wt_if_eq hE 48 wp_md_print_d43 rfl (fun c8 => ?_) (fun c8 => ?_)
  · have h := wt_ip c8 h
    refine wt_aload_n hE wp_md_print_d48 rfl ?_
    refine wt_iload_n hE wp_md_print_d49 rfl ?_
    obtain ⟨q9, hq9, h⟩ := wt_bi h
    refine wt_callVi hE [.int x1] wt_lm_md_329 wt_ya_md_leastOf (wp_md_leastOf_ok hD hq9) (by omega) (hD 108 (by decide) (by decide)) wt_L108 rfl rfl rfl (Nat.le_of_ble_eq_true rfl) (Nat.zero_le _) wp_md_print_d50 (fun hbq9 => ?_)
    refine wt_iload_n hE wp_md_print_d53 rfl ?_
    refine wt_icmp_ge hE 59 wp_md_print_d54 rfl (fun c10 => ?_) (fun c10 => ?_)
    · have h := wt_ip c10 h
      refine wt_iconst hE (0 : Int32) wp_md_print_d59 wt_ci_0 ?_
      refine wt_istore_n hE [some (.ref (wt_ad (wt_xw X) 108)), some (.int x1), some (.int x2), some (.int (0 : Int32)), none] wp_md_print_d60 (by decide) rfl ?_
      refine wt_iconst hE (0 : Int32) wp_md_print_d61 wt_ci_0 ?_
      refine wt_istore hE [some (.ref (wt_ad (wt_xw X) 108)), some (.int x1), some (.int x2), some (.int (0 : Int32)), some (.int (0 : Int32))] wp_md_print_d62 (Nat.le_of_ble_eq_true rfl) rfl ?_
      exact wt_it_ind (fun z => wt_V X 0 z.2.2 64 [some (.ref (wt_ad (wt_xw X) 108)), some (.int x1), some (.int x2), some (.int z.1), some (.int z.2.1)] []) (fun K hK z h => wp_md_print_B64_ok hE hR hD hK h) n ((0 : Int32), (0 : Int32), q9.2) h
    · have h := wt_in c10 h
      refine wt_iconst hE (-1 : Int32) wp_md_print_d57 wt_ci_m1 ?_
      cases h
      exact wt_iret hE hR wp_md_print_d58
  · have h := wt_in c8 h
    refine wt_iconst hE (0 : Int32) wp_md_print_d46 wt_ci_0 ?_
    cases h
    exact wt_iret hE hR wp_md_print_d47
noncomputable def wp_md_print_B19 (n : Nat) (x1 : Int32) (x2 : Int32) (y1 : Int32) (σ : wt_St) : Option (Int32 × wt_St) :=
  (wp_md_bad n y1 (1 : Int32) σ).bind fun q3 =>
  if q3.1 = 0 then
    (wp_md_isCopies n x2 q3.2).bind fun q5 =>
    if q5.1 = 0 then
      wp_md_print_B39 n x1 x2 (1 : Int32) q5.2
    else
      wp_md_print_B39 n x1 x2 (0 : Int32) q5.2
  else
    some ((0 : Int32), q3.2)
set_option maxRecDepth 100000 in
set_option maxHeartbeats 4000000 in
theorem wp_md_print_B19_ok  {x1 : Int32} {x2 : Int32} {X : wt_X} {n : Nat} {res : Int32 × wt_St} (hE : wt_Ok X prog_13_method_57_code 5 "WornTypeModel" 2 0) (hR : wt_Rt X (some .int) (some res.1) res.2) (hD : ∀ i, 108 ≤ i → i < 321 → wt_dom (wt_xw X) i)  {σ : wt_St} {y1 : Int32} (h : wp_md_print_B19 n x1 x2 y1 σ = some res) : wt_V X 0 σ 19 [some (.ref (wt_ad (wt_xw X) 108)), some (.int x1), some (.int x2), none, none] [.int y1, .ref (wt_ad (wt_xw X) 108)] := by
  unfold wp_md_print_B19 at h
  refine wt_iconst hE (1 : Int32) wp_md_print_d19 wt_ci_1 ?_
  obtain ⟨q3, hq3, h⟩ := wt_bi h
  refine wt_callVi hE [.int y1, .int (1 : Int32)] wt_lm_md_230 wt_ya_md_bad (wp_md_bad_ok hD hq3) (by omega) (hD 108 (by decide) (by decide)) wt_L108 rfl rfl rfl (Nat.le_of_ble_eq_true rfl) (Nat.zero_le _) wp_md_print_d20 (fun hbq3 => ?_)
  refine wt_if_ne hE 46 wp_md_print_d23 rfl (fun c4 => ?_) (fun c4 => ?_)
  · have h := wt_in c4 h
    refine wt_iconst hE (0 : Int32) wp_md_print_d46 wt_ci_0 ?_
    cases h
    exact wt_iret hE hR wp_md_print_d47
  · have h := wt_ip c4 h
    refine wt_aload_n hE wp_md_print_d26 rfl ?_
    refine wt_iload_n hE wp_md_print_d27 rfl ?_
    obtain ⟨q5, hq5, h⟩ := wt_bi h
    refine wt_callSi hE [.int x2] wt_lm_md_313 wt_ya_md_isCopies (wp_md_isCopies_ok hq5) (by omega) rfl rfl (Nat.le_of_ble_eq_true rfl) (Nat.zero_le _) wp_md_print_d28 (fun hbq5 => ?_)
    refine wt_if_ne hE 38 wp_md_print_d31 rfl (fun c6 => ?_) (fun c6 => ?_)
    · have h := wt_in c6 h
      refine wt_iconst hE (0 : Int32) wp_md_print_d38 wt_ci_0 ?_
      exact wp_md_print_B39_ok hE hR hD h
    · have h := wt_ip c6 h
      refine wt_iconst hE (1 : Int32) wp_md_print_d34 wt_ci_1 ?_
      refine wt_goto hE 39 wp_md_print_d35 rfl ?_
      exact wp_md_print_B39_ok hE hR hD h
noncomputable def wp_md_print (n : Nat) (x1 : Int32) (x2 : Int32) (σ : wt_St) : Option (Int32 × wt_St) :=
  (wp_md_isPage n x1 (wt_sf σ 108 0 (0 : Int32))).bind fun q1 =>
  if q1.1 = 0 then
    wp_md_print_B19 n x1 x2 (1 : Int32) q1.2
  else
    wp_md_print_B19 n x1 x2 (0 : Int32) q1.2
set_option maxRecDepth 100000 in
set_option maxHeartbeats 4000000 in
theorem wp_md_print_ok {l : Launch} {w : wt_E} {n : Nat} {x1 : Int32} {x2 : Int32} (hD : ∀ i, 108 ≤ i → i < 321 → wt_dom w i) {σ : wt_St} {q : Int32 × wt_St} (h : wp_md_print n x1 x2 σ = some q) : wt_Ctr l w wt_y_md_print prog_13_method_57_code 5 (some .int) 2 [.ref (wt_ad w 108), .int x1, .int x2] σ (some q.1) q.2 := by
  refine wt_ctr wt_pl_md_print rfl (Nat.le_of_ble_eq_true rfl) [some (.ref (wt_ad w 108)), some (.int x1), some (.int x2), none, none] rfl ?_
  intro X hXl hXw hE hR
  subst hXl
  subst hXw
  have hE : wt_Ok X prog_13_method_57_code 5 "WornTypeModel" 2 0 := hE
  unfold wp_md_print at h
  refine wt_aload_n hE wp_md_print_d0 rfl ?_
  refine wt_iconst hE (0 : Int32) wp_md_print_d1 wt_ci_0 ?_
  refine wt_puti hE wt_lf_md_151 (hD 108 (by decide) (by decide)) wt_L108 rfl (fun q hq => by cases hq; rfl) wp_md_print_d2 ?_
  refine wt_aload_n hE wp_md_print_d5 rfl ?_
  refine wt_aload_n hE wp_md_print_d6 rfl ?_
  refine wt_iload_n hE wp_md_print_d7 rfl ?_
  obtain ⟨q1, hq1, h⟩ := wt_bi h
  refine wt_callVi hE [.int x1] wt_lm_md_326 wt_ya_md_isPage (wp_md_isPage_ok hD hq1) (by omega) (hD 108 (by decide) (by decide)) wt_L108 rfl rfl rfl (Nat.le_of_ble_eq_true rfl) (Nat.zero_le _) wp_md_print_d8 (fun hbq1 => ?_)
  refine wt_if_ne hE 18 wp_md_print_d11 rfl (fun c2 => ?_) (fun c2 => ?_)
  · have h := wt_in c2 h
    refine wt_iconst hE (0 : Int32) wp_md_print_d18 wt_ci_0 ?_
    exact wp_md_print_B19_ok hE hR hD h
  · have h := wt_ip c2 h
    refine wt_iconst hE (1 : Int32) wp_md_print_d14 wt_ci_1 ?_
    refine wt_goto hE 19 wp_md_print_d15 rfl ?_
    exact wp_md_print_B19_ok hE hR hD h
def wb18m8_prog_13_method_63_code_r2 : List (List Nat) := [16, 254, 172] :: []
def wb18m8_prog_13_method_63_code_r1 : List (List Nat) := [28, 3, 42, 180, 0, 88, 42, 180, 0, 100, 27, 46, 46, 4, 100, 184, 0, 185, 153, 0, 12, 42, 27, 28, 182, 1, 80, 167, 0, 5] :: wb18m8_prog_13_method_63_code_r2
def wb18m8_prog_13_method_63_code_r0 : List (List Nat) := [42, 3, 181, 0, 151, 42, 42, 27, 182, 1, 70, 154, 0, 7, 4, 167, 0, 4, 3, 4, 182, 0, 230, 153, 0, 5, 3, 172] :: wb18m8_prog_13_method_63_code_r1
set_option maxRecDepth 100000 in
theorem wb18m8_prog_13_method_63_code_c0 : wt_cs prog_13_method_63_code 0 wb18m8_prog_13_method_63_code_r0 := wt_cs_of (by decide +kernel)
theorem wb18m8_prog_13_method_63_code_c1 : wt_cs prog_13_method_63_code 28 wb18m8_prog_13_method_63_code_r1 := wt_cs_tl (m := 28) wb18m8_prog_13_method_63_code_c0 rfl rfl
theorem wb18m8_prog_13_method_63_code_c2 : wt_cs prog_13_method_63_code 58 wb18m8_prog_13_method_63_code_r2 := wt_cs_tl (m := 30) wb18m8_prog_13_method_63_code_c1 rfl rfl
theorem wp_md_read_d0 : decode prog_13_method_63_code 0 = .ok (.aload_n 0, 1) := wt_op42 wb18m8_prog_13_method_63_code_c0 0 rfl rfl
theorem wp_md_read_d1 : decode prog_13_method_63_code 1 = .ok (.iconst 0, 1) := wt_op3 wb18m8_prog_13_method_63_code_c0 1 rfl rfl
theorem wp_md_read_d2 : decode prog_13_method_63_code 2 = .ok (.putfield 151, 3) := wt_op181 wb18m8_prog_13_method_63_code_c0 2 rfl rfl rfl
theorem wp_md_read_d5 : decode prog_13_method_63_code 5 = .ok (.aload_n 0, 1) := wt_op42 wb18m8_prog_13_method_63_code_c0 5 rfl rfl
theorem wp_md_read_d6 : decode prog_13_method_63_code 6 = .ok (.aload_n 0, 1) := wt_op42 wb18m8_prog_13_method_63_code_c0 6 rfl rfl
theorem wp_md_read_d7 : decode prog_13_method_63_code 7 = .ok (.iload_n 1, 1) := wt_op27 wb18m8_prog_13_method_63_code_c0 7 rfl rfl
theorem wp_md_read_d8 : decode prog_13_method_63_code 8 = .ok (.invokevirtual 326, 3) := wt_op182 wb18m8_prog_13_method_63_code_c0 8 rfl rfl rfl
theorem wp_md_read_d11 : decode prog_13_method_63_code 11 = .ok (.ifCond .ne 7, 3) := wt_op154 wb18m8_prog_13_method_63_code_c0 11 rfl rfl rfl
theorem wp_md_read_d14 : decode prog_13_method_63_code 14 = .ok (.iconst 1, 1) := wt_op4 wb18m8_prog_13_method_63_code_c0 14 rfl rfl
theorem wp_md_read_d15 : decode prog_13_method_63_code 15 = .ok (.goto 4, 3) := wt_op167 wb18m8_prog_13_method_63_code_c0 15 rfl rfl rfl
theorem wp_md_read_d18 : decode prog_13_method_63_code 18 = .ok (.iconst 0, 1) := wt_op3 wb18m8_prog_13_method_63_code_c0 18 rfl rfl
theorem wp_md_read_d19 : decode prog_13_method_63_code 19 = .ok (.iconst 1, 1) := wt_op4 wb18m8_prog_13_method_63_code_c0 19 rfl rfl
theorem wp_md_read_d20 : decode prog_13_method_63_code 20 = .ok (.invokevirtual 230, 3) := wt_op182 wb18m8_prog_13_method_63_code_c0 20 rfl rfl rfl
theorem wp_md_read_d23 : decode prog_13_method_63_code 23 = .ok (.ifCond .eq 5, 3) := wt_op153 wb18m8_prog_13_method_63_code_c0 23 rfl rfl rfl
theorem wp_md_read_d26 : decode prog_13_method_63_code 26 = .ok (.iconst 0, 1) := wt_op3 wb18m8_prog_13_method_63_code_c0 26 rfl rfl
theorem wp_md_read_d27 : decode prog_13_method_63_code 27 = .ok (.ireturn, 1) := wt_op172 wb18m8_prog_13_method_63_code_c0 27 rfl rfl
theorem wp_md_read_d28 : decode prog_13_method_63_code 28 = .ok (.iload_n 2, 1) := wt_op28 wb18m8_prog_13_method_63_code_c1 0 rfl rfl
theorem wp_md_read_d29 : decode prog_13_method_63_code 29 = .ok (.iconst 0, 1) := wt_op3 wb18m8_prog_13_method_63_code_c1 1 rfl rfl
theorem wp_md_read_d30 : decode prog_13_method_63_code 30 = .ok (.aload_n 0, 1) := wt_op42 wb18m8_prog_13_method_63_code_c1 2 rfl rfl
theorem wp_md_read_d31 : decode prog_13_method_63_code 31 = .ok (.getfield 88, 3) := wt_op180 wb18m8_prog_13_method_63_code_c1 3 rfl rfl rfl
theorem wp_md_read_d34 : decode prog_13_method_63_code 34 = .ok (.aload_n 0, 1) := wt_op42 wb18m8_prog_13_method_63_code_c1 6 rfl rfl
theorem wp_md_read_d35 : decode prog_13_method_63_code 35 = .ok (.getfield 100, 3) := wt_op180 wb18m8_prog_13_method_63_code_c1 7 rfl rfl rfl
theorem wp_md_read_d38 : decode prog_13_method_63_code 38 = .ok (.iload_n 1, 1) := wt_op27 wb18m8_prog_13_method_63_code_c1 10 rfl rfl
theorem wp_md_read_d39 : decode prog_13_method_63_code 39 = .ok (.iaload, 1) := wt_op46 wb18m8_prog_13_method_63_code_c1 11 rfl rfl
theorem wp_md_read_d40 : decode prog_13_method_63_code 40 = .ok (.iaload, 1) := wt_op46 wb18m8_prog_13_method_63_code_c1 12 rfl rfl
theorem wp_md_read_d41 : decode prog_13_method_63_code 41 = .ok (.iconst 1, 1) := wt_op4 wb18m8_prog_13_method_63_code_c1 13 rfl rfl
theorem wp_md_read_d42 : decode prog_13_method_63_code 42 = .ok (.isub, 1) := wt_op100 wb18m8_prog_13_method_63_code_c1 14 rfl rfl
theorem wp_md_read_d43 : decode prog_13_method_63_code 43 = .ok (.invokestatic 185, 3) := wt_op184 wb18m8_prog_13_method_63_code_c1 15 rfl rfl rfl
theorem wp_md_read_d46 : decode prog_13_method_63_code 46 = .ok (.ifCond .eq 12, 3) := wt_op153 wb18m8_prog_13_method_63_code_c1 18 rfl rfl rfl
theorem wp_md_read_d49 : decode prog_13_method_63_code 49 = .ok (.aload_n 0, 1) := wt_op42 wb18m8_prog_13_method_63_code_c1 21 rfl rfl
theorem wp_md_read_d50 : decode prog_13_method_63_code 50 = .ok (.iload_n 1, 1) := wt_op27 wb18m8_prog_13_method_63_code_c1 22 rfl rfl
theorem wp_md_read_d51 : decode prog_13_method_63_code 51 = .ok (.iload_n 2, 1) := wt_op28 wb18m8_prog_13_method_63_code_c1 23 rfl rfl
theorem wp_md_read_d52 : decode prog_13_method_63_code 52 = .ok (.invokevirtual 336, 3) := wt_op182 wb18m8_prog_13_method_63_code_c1 24 rfl rfl rfl
theorem wp_md_read_d55 : decode prog_13_method_63_code 55 = .ok (.goto 5, 3) := wt_op167 wb18m8_prog_13_method_63_code_c1 27 rfl rfl rfl
theorem wp_md_read_d58 : decode prog_13_method_63_code 58 = .ok (.bipush (-2), 2) := wt_op16 wb18m8_prog_13_method_63_code_c2 0 rfl rfl rfl
theorem wp_md_read_d60 : decode prog_13_method_63_code 60 = .ok (.ireturn, 1) := wt_op172 wb18m8_prog_13_method_63_code_c2 2 rfl rfl
noncomputable def wp_md_read_B19 (n : Nat) (x1 : Int32) (x2 : Int32) (y1 : Int32) (σ : wt_St) : Option (Int32 × wt_St) :=
  (wp_md_bad n y1 (1 : Int32) σ).bind fun q3 =>
  if q3.1 = 0 then
    if x1 < 0 ∨ 4 ≤ Int32.toNatClampNeg x1 then none else
    if (wt_ga q3.2 275 (Int32.toNatClampNeg x1)) < 0 ∨ 8 ≤ Int32.toNatClampNeg (wt_ga q3.2 275 (Int32.toNatClampNeg x1)) then none else
    (wp_md_in n x2 (0 : Int32) ((wt_ga q3.2 253 (Int32.toNatClampNeg (wt_ga q3.2 275 (Int32.toNatClampNeg x1)))) - (1 : Int32)) q3.2).bind fun q7 =>
    if q7.1 = 0 then
      some ((-2 : Int32), q7.2)
    else
      (wp_md_readOf n x1 x2 q7.2).bind fun q9 =>
      some (q9.1, q9.2)
  else
    some ((0 : Int32), q3.2)
set_option maxRecDepth 100000 in
set_option maxHeartbeats 4000000 in
theorem wp_md_read_B19_ok  {x1 : Int32} {x2 : Int32} {X : wt_X} {n : Nat} {res : Int32 × wt_St} (hE : wt_Ok X prog_13_method_63_code 3 "WornTypeModel" 2 0) (hR : wt_Rt X (some .int) (some res.1) res.2) (hD : ∀ i, 108 ≤ i → i < 321 → wt_dom (wt_xw X) i)  {σ : wt_St} {y1 : Int32} (h : wp_md_read_B19 n x1 x2 y1 σ = some res) : wt_V X 0 σ 19 [some (.ref (wt_ad (wt_xw X) 108)), some (.int x1), some (.int x2)] [.int y1, .ref (wt_ad (wt_xw X) 108)] := by
  unfold wp_md_read_B19 at h
  refine wt_iconst hE (1 : Int32) wp_md_read_d19 wt_ci_1 ?_
  obtain ⟨q3, hq3, h⟩ := wt_bi h
  refine wt_callVi hE [.int y1, .int (1 : Int32)] wt_lm_md_230 wt_ya_md_bad (wp_md_bad_ok hD hq3) (by omega) (hD 108 (by decide) (by decide)) wt_L108 rfl rfl rfl (Nat.le_of_ble_eq_true rfl) (Nat.zero_le _) wp_md_read_d20 (fun hbq3 => ?_)
  refine wt_if_eq hE 28 wp_md_read_d23 rfl (fun c4 => ?_) (fun c4 => ?_)
  · have h := wt_ip c4 h
    refine wt_iload_n hE wp_md_read_d28 rfl ?_
    refine wt_iconst hE (0 : Int32) wp_md_read_d29 wt_ci_0 ?_
    refine wt_aload_n hE wp_md_read_d30 rfl ?_
    refine wt_getr hE (r := 253) wt_lf_md_88 (hD 108 (by decide) (by decide)) wt_L108 rfl wp_md_read_d31 ?_
    refine wt_aload_n hE wp_md_read_d34 rfl ?_
    refine wt_getr hE (r := 275) wt_lf_md_100 (hD 108 (by decide) (by decide)) wt_L108 rfl wp_md_read_d35 ?_
    refine wt_iload_n hE wp_md_read_d38 rfl ?_
    obtain ⟨g5, h⟩ := wt_gd h
    refine wt_iald hE (hD 275 (by decide) (by decide)) wt_L275 g5 wp_md_read_d39 ?_
    obtain ⟨g6, h⟩ := wt_gd h
    refine wt_iald hE (hD 253 (by decide) (by decide)) wt_L253 g6 wp_md_read_d40 ?_
    refine wt_iconst hE (1 : Int32) wp_md_read_d41 wt_ci_1 ?_
    refine wt_isub hE wp_md_read_d42 ?_
    obtain ⟨q7, hq7, h⟩ := wt_bi h
    refine wt_callSi hE [.int x2, .int (0 : Int32), .int ((wt_ga q3.2 253 (Int32.toNatClampNeg (wt_ga q3.2 275 (Int32.toNatClampNeg x1)))) - (1 : Int32))] wt_lm_md_185 wt_ya_md_in (wp_md_in_ok hq7) (by omega) rfl rfl (Nat.le_of_ble_eq_true rfl) (Nat.zero_le _) wp_md_read_d43 (fun hbq7 => ?_)
    refine wt_if_eq hE 58 wp_md_read_d46 rfl (fun c8 => ?_) (fun c8 => ?_)
    · have h := wt_ip c8 h
      refine wt_bipush hE (-2 : Int32) wp_md_read_d58 wt_cb_m2 ?_
      cases h
      exact wt_iret hE hR wp_md_read_d60
    · have h := wt_in c8 h
      refine wt_aload_n hE wp_md_read_d49 rfl ?_
      refine wt_iload_n hE wp_md_read_d50 rfl ?_
      refine wt_iload_n hE wp_md_read_d51 rfl ?_
      obtain ⟨q9, hq9, h⟩ := wt_bi h
      refine wt_callVi hE [.int x1, .int x2] wt_lm_md_336 wt_ya_md_readOf (wp_md_readOf_ok hD hq9) (by omega) (hD 108 (by decide) (by decide)) wt_L108 rfl rfl rfl (Nat.le_of_ble_eq_true rfl) (Nat.zero_le _) wp_md_read_d52 (fun hbq9 => ?_)
      refine wt_goto hE 60 wp_md_read_d55 rfl ?_
      cases h
      exact wt_iret hE hR wp_md_read_d60
  · have h := wt_in c4 h
    refine wt_iconst hE (0 : Int32) wp_md_read_d26 wt_ci_0 ?_
    cases h
    exact wt_iret hE hR wp_md_read_d27
noncomputable def wp_md_read (n : Nat) (x1 : Int32) (x2 : Int32) (σ : wt_St) : Option (Int32 × wt_St) :=
  (wp_md_isPage n x1 (wt_sf σ 108 0 (0 : Int32))).bind fun q1 =>
  if q1.1 = 0 then
    wp_md_read_B19 n x1 x2 (1 : Int32) q1.2
  else
    wp_md_read_B19 n x1 x2 (0 : Int32) q1.2
set_option maxRecDepth 100000 in
set_option maxHeartbeats 4000000 in
theorem wp_md_read_ok {l : Launch} {w : wt_E} {n : Nat} {x1 : Int32} {x2 : Int32} (hD : ∀ i, 108 ≤ i → i < 321 → wt_dom w i) {σ : wt_St} {q : Int32 × wt_St} (h : wp_md_read n x1 x2 σ = some q) : wt_Ctr l w wt_y_md_read prog_13_method_63_code 3 (some .int) 2 [.ref (wt_ad w 108), .int x1, .int x2] σ (some q.1) q.2 := by
  refine wt_ctr wt_pl_md_read rfl (Nat.le_of_ble_eq_true rfl) [some (.ref (wt_ad w 108)), some (.int x1), some (.int x2)] rfl ?_
  intro X hXl hXw hE hR
  subst hXl
  subst hXw
  have hE : wt_Ok X prog_13_method_63_code 3 "WornTypeModel" 2 0 := hE
  unfold wp_md_read at h
  refine wt_aload_n hE wp_md_read_d0 rfl ?_
  refine wt_iconst hE (0 : Int32) wp_md_read_d1 wt_ci_0 ?_
  refine wt_puti hE wt_lf_md_151 (hD 108 (by decide) (by decide)) wt_L108 rfl (fun q hq => by cases hq; rfl) wp_md_read_d2 ?_
  refine wt_aload_n hE wp_md_read_d5 rfl ?_
  refine wt_aload_n hE wp_md_read_d6 rfl ?_
  refine wt_iload_n hE wp_md_read_d7 rfl ?_
  obtain ⟨q1, hq1, h⟩ := wt_bi h
  refine wt_callVi hE [.int x1] wt_lm_md_326 wt_ya_md_isPage (wp_md_isPage_ok hD hq1) (by omega) (hD 108 (by decide) (by decide)) wt_L108 rfl rfl rfl (Nat.le_of_ble_eq_true rfl) (Nat.zero_le _) wp_md_read_d8 (fun hbq1 => ?_)
  refine wt_if_ne hE 18 wp_md_read_d11 rfl (fun c2 => ?_) (fun c2 => ?_)
  · have h := wt_in c2 h
    refine wt_iconst hE (0 : Int32) wp_md_read_d18 wt_ci_0 ?_
    exact wp_md_read_B19_ok hE hR hD h
  · have h := wt_ip c2 h
    refine wt_iconst hE (1 : Int32) wp_md_read_d14 wt_ci_1 ?_
    refine wt_goto hE 19 wp_md_read_d15 rfl ?_
    exact wp_md_read_B19_ok hE hR hD h
