def wb14m4_prog_20_method_49_code_r1 : List (List Nat) := [96, 19, 1, 11, 126, 59, 26, 26, 16, 8, 124, 96, 59, 26, 26, 16, 16, 124, 96, 59, 26, 16, 63, 126, 172] :: []
def wb14m4_prog_20_method_49_code_r0 : List (List Nat) := [26, 26, 4, 124, 19, 1, 9, 126, 100, 59, 26, 19, 1, 10, 126, 26, 5, 124, 19, 1, 10, 126, 96, 59, 26, 26, 7, 124] :: wb14m4_prog_20_method_49_code_r1
set_option maxRecDepth 100000 in
theorem wb14m4_prog_20_method_49_code_c0 : wt_cs prog_20_method_49_code 0 wb14m4_prog_20_method_49_code_r0 := wt_cs_of (by decide +kernel)
theorem wb14m4_prog_20_method_49_code_c1 : wt_cs prog_20_method_49_code 28 wb14m4_prog_20_method_49_code_r1 := wt_cs_tl (m := 28) wb14m4_prog_20_method_49_code_c0 rfl rfl
theorem wp_jl_bitCount_d0 : decode prog_20_method_49_code 0 = .ok (.iload_n 0, 1) := wt_op26 wb14m4_prog_20_method_49_code_c0 0 rfl rfl
theorem wp_jl_bitCount_d1 : decode prog_20_method_49_code 1 = .ok (.iload_n 0, 1) := wt_op26 wb14m4_prog_20_method_49_code_c0 1 rfl rfl
theorem wp_jl_bitCount_d2 : decode prog_20_method_49_code 2 = .ok (.iconst 1, 1) := wt_op4 wb14m4_prog_20_method_49_code_c0 2 rfl rfl
theorem wp_jl_bitCount_d3 : decode prog_20_method_49_code 3 = .ok (.iushr, 1) := wt_op124 wb14m4_prog_20_method_49_code_c0 3 rfl rfl
theorem wp_jl_bitCount_d4 : decode prog_20_method_49_code 4 = .ok (.ldc_w 265, 3) := wt_op19 wb14m4_prog_20_method_49_code_c0 4 rfl rfl rfl
theorem wp_jl_bitCount_d7 : decode prog_20_method_49_code 7 = .ok (.iand, 1) := wt_op126 wb14m4_prog_20_method_49_code_c0 7 rfl rfl
theorem wp_jl_bitCount_d8 : decode prog_20_method_49_code 8 = .ok (.isub, 1) := wt_op100 wb14m4_prog_20_method_49_code_c0 8 rfl rfl
theorem wp_jl_bitCount_d9 : decode prog_20_method_49_code 9 = .ok (.istore_n 0, 1) := wt_op59 wb14m4_prog_20_method_49_code_c0 9 rfl rfl
theorem wp_jl_bitCount_d10 : decode prog_20_method_49_code 10 = .ok (.iload_n 0, 1) := wt_op26 wb14m4_prog_20_method_49_code_c0 10 rfl rfl
theorem wp_jl_bitCount_d11 : decode prog_20_method_49_code 11 = .ok (.ldc_w 266, 3) := wt_op19 wb14m4_prog_20_method_49_code_c0 11 rfl rfl rfl
theorem wp_jl_bitCount_d14 : decode prog_20_method_49_code 14 = .ok (.iand, 1) := wt_op126 wb14m4_prog_20_method_49_code_c0 14 rfl rfl
theorem wp_jl_bitCount_d15 : decode prog_20_method_49_code 15 = .ok (.iload_n 0, 1) := wt_op26 wb14m4_prog_20_method_49_code_c0 15 rfl rfl
theorem wp_jl_bitCount_d16 : decode prog_20_method_49_code 16 = .ok (.iconst 2, 1) := wt_op5 wb14m4_prog_20_method_49_code_c0 16 rfl rfl
theorem wp_jl_bitCount_d17 : decode prog_20_method_49_code 17 = .ok (.iushr, 1) := wt_op124 wb14m4_prog_20_method_49_code_c0 17 rfl rfl
theorem wp_jl_bitCount_d18 : decode prog_20_method_49_code 18 = .ok (.ldc_w 266, 3) := wt_op19 wb14m4_prog_20_method_49_code_c0 18 rfl rfl rfl
theorem wp_jl_bitCount_d21 : decode prog_20_method_49_code 21 = .ok (.iand, 1) := wt_op126 wb14m4_prog_20_method_49_code_c0 21 rfl rfl
theorem wp_jl_bitCount_d22 : decode prog_20_method_49_code 22 = .ok (.iadd, 1) := wt_op96 wb14m4_prog_20_method_49_code_c0 22 rfl rfl
theorem wp_jl_bitCount_d23 : decode prog_20_method_49_code 23 = .ok (.istore_n 0, 1) := wt_op59 wb14m4_prog_20_method_49_code_c0 23 rfl rfl
theorem wp_jl_bitCount_d24 : decode prog_20_method_49_code 24 = .ok (.iload_n 0, 1) := wt_op26 wb14m4_prog_20_method_49_code_c0 24 rfl rfl
theorem wp_jl_bitCount_d25 : decode prog_20_method_49_code 25 = .ok (.iload_n 0, 1) := wt_op26 wb14m4_prog_20_method_49_code_c0 25 rfl rfl
theorem wp_jl_bitCount_d26 : decode prog_20_method_49_code 26 = .ok (.iconst 4, 1) := wt_op7 wb14m4_prog_20_method_49_code_c0 26 rfl rfl
theorem wp_jl_bitCount_d27 : decode prog_20_method_49_code 27 = .ok (.iushr, 1) := wt_op124 wb14m4_prog_20_method_49_code_c0 27 rfl rfl
theorem wp_jl_bitCount_d28 : decode prog_20_method_49_code 28 = .ok (.iadd, 1) := wt_op96 wb14m4_prog_20_method_49_code_c1 0 rfl rfl
theorem wp_jl_bitCount_d29 : decode prog_20_method_49_code 29 = .ok (.ldc_w 267, 3) := wt_op19 wb14m4_prog_20_method_49_code_c1 1 rfl rfl rfl
theorem wp_jl_bitCount_d32 : decode prog_20_method_49_code 32 = .ok (.iand, 1) := wt_op126 wb14m4_prog_20_method_49_code_c1 4 rfl rfl
theorem wp_jl_bitCount_d33 : decode prog_20_method_49_code 33 = .ok (.istore_n 0, 1) := wt_op59 wb14m4_prog_20_method_49_code_c1 5 rfl rfl
theorem wp_jl_bitCount_d34 : decode prog_20_method_49_code 34 = .ok (.iload_n 0, 1) := wt_op26 wb14m4_prog_20_method_49_code_c1 6 rfl rfl
theorem wp_jl_bitCount_d35 : decode prog_20_method_49_code 35 = .ok (.iload_n 0, 1) := wt_op26 wb14m4_prog_20_method_49_code_c1 7 rfl rfl
theorem wp_jl_bitCount_d36 : decode prog_20_method_49_code 36 = .ok (.bipush 8, 2) := wt_op16 wb14m4_prog_20_method_49_code_c1 8 rfl rfl rfl
theorem wp_jl_bitCount_d38 : decode prog_20_method_49_code 38 = .ok (.iushr, 1) := wt_op124 wb14m4_prog_20_method_49_code_c1 10 rfl rfl
theorem wp_jl_bitCount_d39 : decode prog_20_method_49_code 39 = .ok (.iadd, 1) := wt_op96 wb14m4_prog_20_method_49_code_c1 11 rfl rfl
theorem wp_jl_bitCount_d40 : decode prog_20_method_49_code 40 = .ok (.istore_n 0, 1) := wt_op59 wb14m4_prog_20_method_49_code_c1 12 rfl rfl
theorem wp_jl_bitCount_d41 : decode prog_20_method_49_code 41 = .ok (.iload_n 0, 1) := wt_op26 wb14m4_prog_20_method_49_code_c1 13 rfl rfl
theorem wp_jl_bitCount_d42 : decode prog_20_method_49_code 42 = .ok (.iload_n 0, 1) := wt_op26 wb14m4_prog_20_method_49_code_c1 14 rfl rfl
theorem wp_jl_bitCount_d43 : decode prog_20_method_49_code 43 = .ok (.bipush 16, 2) := wt_op16 wb14m4_prog_20_method_49_code_c1 15 rfl rfl rfl
theorem wp_jl_bitCount_d45 : decode prog_20_method_49_code 45 = .ok (.iushr, 1) := wt_op124 wb14m4_prog_20_method_49_code_c1 17 rfl rfl
theorem wp_jl_bitCount_d46 : decode prog_20_method_49_code 46 = .ok (.iadd, 1) := wt_op96 wb14m4_prog_20_method_49_code_c1 18 rfl rfl
theorem wp_jl_bitCount_d47 : decode prog_20_method_49_code 47 = .ok (.istore_n 0, 1) := wt_op59 wb14m4_prog_20_method_49_code_c1 19 rfl rfl
theorem wp_jl_bitCount_d48 : decode prog_20_method_49_code 48 = .ok (.iload_n 0, 1) := wt_op26 wb14m4_prog_20_method_49_code_c1 20 rfl rfl
theorem wp_jl_bitCount_d49 : decode prog_20_method_49_code 49 = .ok (.bipush 63, 2) := wt_op16 wb14m4_prog_20_method_49_code_c1 21 rfl rfl rfl
theorem wp_jl_bitCount_d51 : decode prog_20_method_49_code 51 = .ok (.iand, 1) := wt_op126 wb14m4_prog_20_method_49_code_c1 23 rfl rfl
theorem wp_jl_bitCount_d52 : decode prog_20_method_49_code 52 = .ok (.ireturn, 1) := wt_op172 wb14m4_prog_20_method_49_code_c1 24 rfl rfl
noncomputable def wp_jl_bitCount (n : Nat) (x0 : Int32) (σ : wt_St) : Option (Int32 × wt_St) :=
  some (((((((((x0 - ((wt_ush x0 (1 : Int32)) &&& (1431655765 : Int32))) &&& (858993459 : Int32)) + ((wt_ush (x0 - ((wt_ush x0 (1 : Int32)) &&& (1431655765 : Int32))) (2 : Int32)) &&& (858993459 : Int32))) + (wt_ush (((x0 - ((wt_ush x0 (1 : Int32)) &&& (1431655765 : Int32))) &&& (858993459 : Int32)) + ((wt_ush (x0 - ((wt_ush x0 (1 : Int32)) &&& (1431655765 : Int32))) (2 : Int32)) &&& (858993459 : Int32))) (4 : Int32))) &&& (252645135 : Int32)) + (wt_ush (((((x0 - ((wt_ush x0 (1 : Int32)) &&& (1431655765 : Int32))) &&& (858993459 : Int32)) + ((wt_ush (x0 - ((wt_ush x0 (1 : Int32)) &&& (1431655765 : Int32))) (2 : Int32)) &&& (858993459 : Int32))) + (wt_ush (((x0 - ((wt_ush x0 (1 : Int32)) &&& (1431655765 : Int32))) &&& (858993459 : Int32)) + ((wt_ush (x0 - ((wt_ush x0 (1 : Int32)) &&& (1431655765 : Int32))) (2 : Int32)) &&& (858993459 : Int32))) (4 : Int32))) &&& (252645135 : Int32)) (8 : Int32))) + (wt_ush ((((((x0 - ((wt_ush x0 (1 : Int32)) &&& (1431655765 : Int32))) &&& (858993459 : Int32)) + ((wt_ush (x0 - ((wt_ush x0 (1 : Int32)) &&& (1431655765 : Int32))) (2 : Int32)) &&& (858993459 : Int32))) + (wt_ush (((x0 - ((wt_ush x0 (1 : Int32)) &&& (1431655765 : Int32))) &&& (858993459 : Int32)) + ((wt_ush (x0 - ((wt_ush x0 (1 : Int32)) &&& (1431655765 : Int32))) (2 : Int32)) &&& (858993459 : Int32))) (4 : Int32))) &&& (252645135 : Int32)) + (wt_ush (((((x0 - ((wt_ush x0 (1 : Int32)) &&& (1431655765 : Int32))) &&& (858993459 : Int32)) + ((wt_ush (x0 - ((wt_ush x0 (1 : Int32)) &&& (1431655765 : Int32))) (2 : Int32)) &&& (858993459 : Int32))) + (wt_ush (((x0 - ((wt_ush x0 (1 : Int32)) &&& (1431655765 : Int32))) &&& (858993459 : Int32)) + ((wt_ush (x0 - ((wt_ush x0 (1 : Int32)) &&& (1431655765 : Int32))) (2 : Int32)) &&& (858993459 : Int32))) (4 : Int32))) &&& (252645135 : Int32)) (8 : Int32))) (16 : Int32))) &&& (63 : Int32)), σ)
set_option maxRecDepth 100000 in
set_option maxHeartbeats 4000000 in
theorem wp_jl_bitCount_ok {l : Launch} {w : wt_E} {n : Nat} {x0 : Int32} {σ : wt_St} {q : Int32 × wt_St} (h : wp_jl_bitCount n x0 σ = some q) : wt_Ctr l w wt_y_jl_bitCount prog_20_method_49_code 1 (some .int) 0 [.int x0] σ (some q.1) q.2 := by
  refine wt_ctr wt_pl_jl_bitCount rfl (Nat.le_of_ble_eq_true rfl) [some (.int x0)] rfl ?_
  intro X hXl hXw hE hR
  subst hXl
  subst hXw
  have hE : wt_Ok X prog_20_method_49_code 1 "java/lang/Integer" 0 0 := hE
  unfold wp_jl_bitCount at h
  refine wt_iload_n hE wp_jl_bitCount_d0 rfl ?_
  refine wt_iload_n hE wp_jl_bitCount_d1 rfl ?_
  refine wt_iconst hE (1 : Int32) wp_jl_bitCount_d2 wt_ci_1 ?_
  refine wt_iushr hE wp_jl_bitCount_d3 ?_
  refine wt_ldcw hE (1431655765 : Int32) wt_lc_jl_265 wp_jl_bitCount_d4 ?_
  refine wt_iand hE wp_jl_bitCount_d7 ?_
  refine wt_isub hE wp_jl_bitCount_d8 ?_
  refine wt_istore_n hE [some (.int (x0 - ((wt_ush x0 (1 : Int32)) &&& (1431655765 : Int32))))] wp_jl_bitCount_d9 (by decide) rfl ?_
  refine wt_iload_n hE wp_jl_bitCount_d10 rfl ?_
  refine wt_ldcw hE (858993459 : Int32) wt_lc_jl_266 wp_jl_bitCount_d11 ?_
  refine wt_iand hE wp_jl_bitCount_d14 ?_
  refine wt_iload_n hE wp_jl_bitCount_d15 rfl ?_
  refine wt_iconst hE (2 : Int32) wp_jl_bitCount_d16 wt_ci_2 ?_
  refine wt_iushr hE wp_jl_bitCount_d17 ?_
  refine wt_ldcw hE (858993459 : Int32) wt_lc_jl_266 wp_jl_bitCount_d18 ?_
  refine wt_iand hE wp_jl_bitCount_d21 ?_
  refine wt_iadd hE wp_jl_bitCount_d22 ?_
  refine wt_istore_n hE [some (.int (((x0 - ((wt_ush x0 (1 : Int32)) &&& (1431655765 : Int32))) &&& (858993459 : Int32)) + ((wt_ush (x0 - ((wt_ush x0 (1 : Int32)) &&& (1431655765 : Int32))) (2 : Int32)) &&& (858993459 : Int32))))] wp_jl_bitCount_d23 (by decide) rfl ?_
  refine wt_iload_n hE wp_jl_bitCount_d24 rfl ?_
  refine wt_iload_n hE wp_jl_bitCount_d25 rfl ?_
  refine wt_iconst hE (4 : Int32) wp_jl_bitCount_d26 wt_ci_4 ?_
  refine wt_iushr hE wp_jl_bitCount_d27 ?_
  refine wt_iadd hE wp_jl_bitCount_d28 ?_
  refine wt_ldcw hE (252645135 : Int32) wt_lc_jl_267 wp_jl_bitCount_d29 ?_
  refine wt_iand hE wp_jl_bitCount_d32 ?_
  refine wt_istore_n hE [some (.int (((((x0 - ((wt_ush x0 (1 : Int32)) &&& (1431655765 : Int32))) &&& (858993459 : Int32)) + ((wt_ush (x0 - ((wt_ush x0 (1 : Int32)) &&& (1431655765 : Int32))) (2 : Int32)) &&& (858993459 : Int32))) + (wt_ush (((x0 - ((wt_ush x0 (1 : Int32)) &&& (1431655765 : Int32))) &&& (858993459 : Int32)) + ((wt_ush (x0 - ((wt_ush x0 (1 : Int32)) &&& (1431655765 : Int32))) (2 : Int32)) &&& (858993459 : Int32))) (4 : Int32))) &&& (252645135 : Int32)))] wp_jl_bitCount_d33 (by decide) rfl ?_
  refine wt_iload_n hE wp_jl_bitCount_d34 rfl ?_
  refine wt_iload_n hE wp_jl_bitCount_d35 rfl ?_
  refine wt_bipush hE (8 : Int32) wp_jl_bitCount_d36 wt_cb_8 ?_
  refine wt_iushr hE wp_jl_bitCount_d38 ?_
  refine wt_iadd hE wp_jl_bitCount_d39 ?_
  refine wt_istore_n hE [some (.int ((((((x0 - ((wt_ush x0 (1 : Int32)) &&& (1431655765 : Int32))) &&& (858993459 : Int32)) + ((wt_ush (x0 - ((wt_ush x0 (1 : Int32)) &&& (1431655765 : Int32))) (2 : Int32)) &&& (858993459 : Int32))) + (wt_ush (((x0 - ((wt_ush x0 (1 : Int32)) &&& (1431655765 : Int32))) &&& (858993459 : Int32)) + ((wt_ush (x0 - ((wt_ush x0 (1 : Int32)) &&& (1431655765 : Int32))) (2 : Int32)) &&& (858993459 : Int32))) (4 : Int32))) &&& (252645135 : Int32)) + (wt_ush (((((x0 - ((wt_ush x0 (1 : Int32)) &&& (1431655765 : Int32))) &&& (858993459 : Int32)) + ((wt_ush (x0 - ((wt_ush x0 (1 : Int32)) &&& (1431655765 : Int32))) (2 : Int32)) &&& (858993459 : Int32))) + (wt_ush (((x0 - ((wt_ush x0 (1 : Int32)) &&& (1431655765 : Int32))) &&& (858993459 : Int32)) + ((wt_ush (x0 - ((wt_ush x0 (1 : Int32)) &&& (1431655765 : Int32))) (2 : Int32)) &&& (858993459 : Int32))) (4 : Int32))) &&& (252645135 : Int32)) (8 : Int32))))] wp_jl_bitCount_d40 (by decide) rfl ?_
  refine wt_iload_n hE wp_jl_bitCount_d41 rfl ?_
  refine wt_iload_n hE wp_jl_bitCount_d42 rfl ?_
  refine wt_bipush hE (16 : Int32) wp_jl_bitCount_d43 wt_cb_16 ?_
  refine wt_iushr hE wp_jl_bitCount_d45 ?_
  refine wt_iadd hE wp_jl_bitCount_d46 ?_
  refine wt_istore_n hE [some (.int (((((((x0 - ((wt_ush x0 (1 : Int32)) &&& (1431655765 : Int32))) &&& (858993459 : Int32)) + ((wt_ush (x0 - ((wt_ush x0 (1 : Int32)) &&& (1431655765 : Int32))) (2 : Int32)) &&& (858993459 : Int32))) + (wt_ush (((x0 - ((wt_ush x0 (1 : Int32)) &&& (1431655765 : Int32))) &&& (858993459 : Int32)) + ((wt_ush (x0 - ((wt_ush x0 (1 : Int32)) &&& (1431655765 : Int32))) (2 : Int32)) &&& (858993459 : Int32))) (4 : Int32))) &&& (252645135 : Int32)) + (wt_ush (((((x0 - ((wt_ush x0 (1 : Int32)) &&& (1431655765 : Int32))) &&& (858993459 : Int32)) + ((wt_ush (x0 - ((wt_ush x0 (1 : Int32)) &&& (1431655765 : Int32))) (2 : Int32)) &&& (858993459 : Int32))) + (wt_ush (((x0 - ((wt_ush x0 (1 : Int32)) &&& (1431655765 : Int32))) &&& (858993459 : Int32)) + ((wt_ush (x0 - ((wt_ush x0 (1 : Int32)) &&& (1431655765 : Int32))) (2 : Int32)) &&& (858993459 : Int32))) (4 : Int32))) &&& (252645135 : Int32)) (8 : Int32))) + (wt_ush ((((((x0 - ((wt_ush x0 (1 : Int32)) &&& (1431655765 : Int32))) &&& (858993459 : Int32)) + ((wt_ush (x0 - ((wt_ush x0 (1 : Int32)) &&& (1431655765 : Int32))) (2 : Int32)) &&& (858993459 : Int32))) + (wt_ush (((x0 - ((wt_ush x0 (1 : Int32)) &&& (1431655765 : Int32))) &&& (858993459 : Int32)) + ((wt_ush (x0 - ((wt_ush x0 (1 : Int32)) &&& (1431655765 : Int32))) (2 : Int32)) &&& (858993459 : Int32))) (4 : Int32))) &&& (252645135 : Int32)) + (wt_ush (((((x0 - ((wt_ush x0 (1 : Int32)) &&& (1431655765 : Int32))) &&& (858993459 : Int32)) + ((wt_ush (x0 - ((wt_ush x0 (1 : Int32)) &&& (1431655765 : Int32))) (2 : Int32)) &&& (858993459 : Int32))) + (wt_ush (((x0 - ((wt_ush x0 (1 : Int32)) &&& (1431655765 : Int32))) &&& (858993459 : Int32)) + ((wt_ush (x0 - ((wt_ush x0 (1 : Int32)) &&& (1431655765 : Int32))) (2 : Int32)) &&& (858993459 : Int32))) (4 : Int32))) &&& (252645135 : Int32)) (8 : Int32))) (16 : Int32))))] wp_jl_bitCount_d47 (by decide) rfl ?_
  refine wt_iload_n hE wp_jl_bitCount_d48 rfl ?_
  refine wt_bipush hE (63 : Int32) wp_jl_bitCount_d49 wt_cb_63 ?_
  refine wt_iand hE wp_jl_bitCount_d51 ?_
  cases h
  exact wt_iret hE hR wp_jl_bitCount_d52
def wb14m4_prog_10_method_4_code_r2 : List (List Nat) := [184, 0, 83, 28, 184, 0, 83, 164, 0, 13, 42, 29, 182, 0, 88, 153, 0, 5, 29, 61, 132, 3, 1, 167, 255, 219, 28, 172] :: []
def wb14m4_prog_10_method_4_code_r1 : List (List Nat) := [182, 0, 74, 79, 132, 2, 1, 167, 255, 222, 3, 61, 4, 62, 29, 4, 42, 180, 0, 15, 180, 0, 77, 120, 162, 0, 30, 29] :: wb14m4_prog_10_method_4_code_r2
def wb14m4_prog_10_method_4_code_r0 : List (List Nat) := [3, 61, 28, 42, 180, 0, 40, 190, 162, 0, 31, 42, 180, 0, 40, 28, 42, 180, 0, 23, 28, 27, 42, 180, 0, 19, 180, 0, 69] :: wb14m4_prog_10_method_4_code_r1
set_option maxRecDepth 100000 in
theorem wb14m4_prog_10_method_4_code_c0 : wt_cs prog_10_method_4_code 0 wb14m4_prog_10_method_4_code_r0 := wt_cs_of (by decide +kernel)
theorem wb14m4_prog_10_method_4_code_c1 : wt_cs prog_10_method_4_code 29 wb14m4_prog_10_method_4_code_r1 := wt_cs_tl (m := 29) wb14m4_prog_10_method_4_code_c0 rfl rfl
theorem wb14m4_prog_10_method_4_code_c2 : wt_cs prog_10_method_4_code 57 wb14m4_prog_10_method_4_code_r2 := wt_cs_tl (m := 28) wb14m4_prog_10_method_4_code_c1 rfl rfl
theorem wp_tr_mostAtOnce_d0 : decode prog_10_method_4_code 0 = .ok (.iconst 0, 1) := wt_op3 wb14m4_prog_10_method_4_code_c0 0 rfl rfl
theorem wp_tr_mostAtOnce_d1 : decode prog_10_method_4_code 1 = .ok (.istore_n 2, 1) := wt_op61 wb14m4_prog_10_method_4_code_c0 1 rfl rfl
theorem wp_tr_mostAtOnce_d2 : decode prog_10_method_4_code 2 = .ok (.iload_n 2, 1) := wt_op28 wb14m4_prog_10_method_4_code_c0 2 rfl rfl
theorem wp_tr_mostAtOnce_d3 : decode prog_10_method_4_code 3 = .ok (.aload_n 0, 1) := wt_op42 wb14m4_prog_10_method_4_code_c0 3 rfl rfl
theorem wp_tr_mostAtOnce_d4 : decode prog_10_method_4_code 4 = .ok (.getfield 40, 3) := wt_op180 wb14m4_prog_10_method_4_code_c0 4 rfl rfl rfl
theorem wp_tr_mostAtOnce_d7 : decode prog_10_method_4_code 7 = .ok (.arraylength, 1) := wt_op190 wb14m4_prog_10_method_4_code_c0 7 rfl rfl
theorem wp_tr_mostAtOnce_d8 : decode prog_10_method_4_code 8 = .ok (.if_icmp .ge 31, 3) := wt_op162 wb14m4_prog_10_method_4_code_c0 8 rfl rfl rfl
theorem wp_tr_mostAtOnce_d11 : decode prog_10_method_4_code 11 = .ok (.aload_n 0, 1) := wt_op42 wb14m4_prog_10_method_4_code_c0 11 rfl rfl
theorem wp_tr_mostAtOnce_d12 : decode prog_10_method_4_code 12 = .ok (.getfield 40, 3) := wt_op180 wb14m4_prog_10_method_4_code_c0 12 rfl rfl rfl
theorem wp_tr_mostAtOnce_d15 : decode prog_10_method_4_code 15 = .ok (.iload_n 2, 1) := wt_op28 wb14m4_prog_10_method_4_code_c0 15 rfl rfl
theorem wp_tr_mostAtOnce_d16 : decode prog_10_method_4_code 16 = .ok (.aload_n 0, 1) := wt_op42 wb14m4_prog_10_method_4_code_c0 16 rfl rfl
theorem wp_tr_mostAtOnce_d17 : decode prog_10_method_4_code 17 = .ok (.getfield 23, 3) := wt_op180 wb14m4_prog_10_method_4_code_c0 17 rfl rfl rfl
theorem wp_tr_mostAtOnce_d20 : decode prog_10_method_4_code 20 = .ok (.iload_n 2, 1) := wt_op28 wb14m4_prog_10_method_4_code_c0 20 rfl rfl
theorem wp_tr_mostAtOnce_d21 : decode prog_10_method_4_code 21 = .ok (.iload_n 1, 1) := wt_op27 wb14m4_prog_10_method_4_code_c0 21 rfl rfl
theorem wp_tr_mostAtOnce_d22 : decode prog_10_method_4_code 22 = .ok (.aload_n 0, 1) := wt_op42 wb14m4_prog_10_method_4_code_c0 22 rfl rfl
theorem wp_tr_mostAtOnce_d23 : decode prog_10_method_4_code 23 = .ok (.getfield 19, 3) := wt_op180 wb14m4_prog_10_method_4_code_c0 23 rfl rfl rfl
theorem wp_tr_mostAtOnce_d26 : decode prog_10_method_4_code 26 = .ok (.getfield 69, 3) := wt_op180 wb14m4_prog_10_method_4_code_c0 26 rfl rfl rfl
theorem wp_tr_mostAtOnce_d29 : decode prog_10_method_4_code 29 = .ok (.invokevirtual 74, 3) := wt_op182 wb14m4_prog_10_method_4_code_c1 0 rfl rfl rfl
theorem wp_tr_mostAtOnce_d32 : decode prog_10_method_4_code 32 = .ok (.iastore, 1) := wt_op79 wb14m4_prog_10_method_4_code_c1 3 rfl rfl
theorem wp_tr_mostAtOnce_d33 : decode prog_10_method_4_code 33 = .ok (.iinc 2 1, 3) := wt_op132 wb14m4_prog_10_method_4_code_c1 4 rfl rfl rfl
theorem wp_tr_mostAtOnce_d36 : decode prog_10_method_4_code 36 = .ok (.goto (-34), 3) := wt_op167 wb14m4_prog_10_method_4_code_c1 7 rfl rfl rfl
theorem wp_tr_mostAtOnce_d39 : decode prog_10_method_4_code 39 = .ok (.iconst 0, 1) := wt_op3 wb14m4_prog_10_method_4_code_c1 10 rfl rfl
theorem wp_tr_mostAtOnce_d40 : decode prog_10_method_4_code 40 = .ok (.istore_n 2, 1) := wt_op61 wb14m4_prog_10_method_4_code_c1 11 rfl rfl
theorem wp_tr_mostAtOnce_d41 : decode prog_10_method_4_code 41 = .ok (.iconst 1, 1) := wt_op4 wb14m4_prog_10_method_4_code_c1 12 rfl rfl
theorem wp_tr_mostAtOnce_d42 : decode prog_10_method_4_code 42 = .ok (.istore_n 3, 1) := wt_op62 wb14m4_prog_10_method_4_code_c1 13 rfl rfl
theorem wp_tr_mostAtOnce_d43 : decode prog_10_method_4_code 43 = .ok (.iload_n 3, 1) := wt_op29 wb14m4_prog_10_method_4_code_c1 14 rfl rfl
theorem wp_tr_mostAtOnce_d44 : decode prog_10_method_4_code 44 = .ok (.iconst 1, 1) := wt_op4 wb14m4_prog_10_method_4_code_c1 15 rfl rfl
theorem wp_tr_mostAtOnce_d45 : decode prog_10_method_4_code 45 = .ok (.aload_n 0, 1) := wt_op42 wb14m4_prog_10_method_4_code_c1 16 rfl rfl
theorem wp_tr_mostAtOnce_d46 : decode prog_10_method_4_code 46 = .ok (.getfield 15, 3) := wt_op180 wb14m4_prog_10_method_4_code_c1 17 rfl rfl rfl
theorem wp_tr_mostAtOnce_d49 : decode prog_10_method_4_code 49 = .ok (.getfield 77, 3) := wt_op180 wb14m4_prog_10_method_4_code_c1 20 rfl rfl rfl
theorem wp_tr_mostAtOnce_d52 : decode prog_10_method_4_code 52 = .ok (.ishl, 1) := wt_op120 wb14m4_prog_10_method_4_code_c1 23 rfl rfl
theorem wp_tr_mostAtOnce_d53 : decode prog_10_method_4_code 53 = .ok (.if_icmp .ge 30, 3) := wt_op162 wb14m4_prog_10_method_4_code_c1 24 rfl rfl rfl
theorem wp_tr_mostAtOnce_d56 : decode prog_10_method_4_code 56 = .ok (.iload_n 3, 1) := wt_op29 wb14m4_prog_10_method_4_code_c1 27 rfl rfl
theorem wp_tr_mostAtOnce_d57 : decode prog_10_method_4_code 57 = .ok (.invokestatic 83, 3) := wt_op184 wb14m4_prog_10_method_4_code_c2 0 rfl rfl rfl
theorem wp_tr_mostAtOnce_d60 : decode prog_10_method_4_code 60 = .ok (.iload_n 2, 1) := wt_op28 wb14m4_prog_10_method_4_code_c2 3 rfl rfl
theorem wp_tr_mostAtOnce_d61 : decode prog_10_method_4_code 61 = .ok (.invokestatic 83, 3) := wt_op184 wb14m4_prog_10_method_4_code_c2 4 rfl rfl rfl
theorem wp_tr_mostAtOnce_d64 : decode prog_10_method_4_code 64 = .ok (.if_icmp .le 13, 3) := wt_op164 wb14m4_prog_10_method_4_code_c2 7 rfl rfl rfl
theorem wp_tr_mostAtOnce_d67 : decode prog_10_method_4_code 67 = .ok (.aload_n 0, 1) := wt_op42 wb14m4_prog_10_method_4_code_c2 10 rfl rfl
theorem wp_tr_mostAtOnce_d68 : decode prog_10_method_4_code 68 = .ok (.iload_n 3, 1) := wt_op29 wb14m4_prog_10_method_4_code_c2 11 rfl rfl
theorem wp_tr_mostAtOnce_d69 : decode prog_10_method_4_code 69 = .ok (.invokevirtual 88, 3) := wt_op182 wb14m4_prog_10_method_4_code_c2 12 rfl rfl rfl
theorem wp_tr_mostAtOnce_d72 : decode prog_10_method_4_code 72 = .ok (.ifCond .eq 5, 3) := wt_op153 wb14m4_prog_10_method_4_code_c2 15 rfl rfl rfl
theorem wp_tr_mostAtOnce_d75 : decode prog_10_method_4_code 75 = .ok (.iload_n 3, 1) := wt_op29 wb14m4_prog_10_method_4_code_c2 18 rfl rfl
theorem wp_tr_mostAtOnce_d76 : decode prog_10_method_4_code 76 = .ok (.istore_n 2, 1) := wt_op61 wb14m4_prog_10_method_4_code_c2 19 rfl rfl
theorem wp_tr_mostAtOnce_d77 : decode prog_10_method_4_code 77 = .ok (.iinc 3 1, 3) := wt_op132 wb14m4_prog_10_method_4_code_c2 20 rfl rfl rfl
theorem wp_tr_mostAtOnce_d80 : decode prog_10_method_4_code 80 = .ok (.goto (-37), 3) := wt_op167 wb14m4_prog_10_method_4_code_c2 23 rfl rfl rfl
theorem wp_tr_mostAtOnce_d83 : decode prog_10_method_4_code 83 = .ok (.iload_n 2, 1) := wt_op28 wb14m4_prog_10_method_4_code_c2 26 rfl rfl
theorem wp_tr_mostAtOnce_d84 : decode prog_10_method_4_code 84 = .ok (.ireturn, 1) := wt_op172 wb14m4_prog_10_method_4_code_c2 27 rfl rfl
noncomputable def wp_tr_mostAtOnce_B77 (n : Nat) (x2 : Int32) (x3 : Int32) (K43 : Int32 × Int32 × wt_St → Option (Int32 × wt_St)) (σ : wt_St) : Option (Int32 × wt_St) :=
  K43 (x2, (x3 + (1 : Int32)), σ)
set_option maxRecDepth 100000 in
set_option maxHeartbeats 4000000 in
theorem wp_tr_mostAtOnce_B77_ok  {x2 : Int32} {x3 : Int32} {X : wt_X} {n : Nat} {res : Int32 × wt_St} (hE : wt_Ok X prog_10_method_4_code 4 "WornType$Trade" 3 0) (hR : wt_Rt X (some .int) (some res.1) res.2) (hD : ∀ i, i < 108 → wt_dom (wt_xw X) i)  {K43 : Int32 × Int32 × wt_St → Option (Int32 × wt_St)} (hK43 : ∀ s : Int32 × Int32 × wt_St, K43 s = some res → wt_V X 0 s.2.2 43 [some (.ref (wt_ad (wt_xw X) 101)), none, some (.int s.1), some (.int s.2.1)] []) {σ : wt_St} (h : wp_tr_mostAtOnce_B77 n x2 x3 K43 σ = some res) : wt_V X 0 σ 77 [some (.ref (wt_ad (wt_xw X) 101)), none, some (.int x2), some (.int x3)] [] := by
  unfold wp_tr_mostAtOnce_B77 at h
  refine wt_iinc hE (x3 + (1 : Int32)) [some (.ref (wt_ad (wt_xw X) 101)), none, some (.int x2), some (.int (x3 + (1 : Int32)))] wp_tr_mostAtOnce_d77 (by decide) rfl rfl rfl ?_
  refine wt_goto hE 43 wp_tr_mostAtOnce_d80 rfl ?_
  exact hK43 (x2, (x3 + (1 : Int32)), σ) h
noncomputable def wp_tr_mostAtOnce_B43 (n : Nat) (K43 : Int32 × Int32 × wt_St → Option (Int32 × wt_St)) (s : Int32 × Int32 × wt_St) : Option (Int32 × wt_St) :=
  if ((1 : Int32) <<< ((wt_gf s.2.2 34 4) &&& 31)) ≤ s.2.1 then
    some (s.1, s.2.2)
  else
    (wp_jl_bitCount n s.2.1 s.2.2).bind fun q3 =>
    (wp_jl_bitCount n s.1 q3.2).bind fun q4 =>
    if q3.1 ≤ q4.1 then
      wp_tr_mostAtOnce_B77 n s.1 s.2.1 K43 q4.2
    else
      (wp_tr_standAtOnce n s.2.1 q4.2).bind fun q6 =>
      if q6.1 = 0 then
        wp_tr_mostAtOnce_B77 n s.1 s.2.1 K43 q6.2
      else
        wp_tr_mostAtOnce_B77 n s.2.1 s.2.1 K43 q6.2
set_option maxRecDepth 100000 in
set_option maxHeartbeats 4000000 in
theorem wp_tr_mostAtOnce_B43_ok  {X : wt_X} {n : Nat} {res : Int32 × wt_St} (hE : wt_Ok X prog_10_method_4_code 4 "WornType$Trade" 3 0) (hR : wt_Rt X (some .int) (some res.1) res.2) (hD : ∀ i, i < 108 → wt_dom (wt_xw X) i)  {K43 : Int32 × Int32 × wt_St → Option (Int32 × wt_St)} (hK43 : ∀ s : Int32 × Int32 × wt_St, K43 s = some res → wt_V X 0 s.2.2 43 [some (.ref (wt_ad (wt_xw X) 101)), none, some (.int s.1), some (.int s.2.1)] []) {s : Int32 × Int32 × wt_St} (h : wp_tr_mostAtOnce_B43 n K43 s = some res) : wt_V X 0 s.2.2 43 [some (.ref (wt_ad (wt_xw X) 101)), none, some (.int s.1), some (.int s.2.1)] [] := by
  unfold wp_tr_mostAtOnce_B43 at h
  refine wt_iload_n hE wp_tr_mostAtOnce_d43 rfl ?_
  refine wt_iconst hE (1 : Int32) wp_tr_mostAtOnce_d44 wt_ci_1 ?_
  refine wt_aload_n hE wp_tr_mostAtOnce_d45 rfl ?_
  refine wt_getr hE (r := 34) wt_lf_tr_15 (hD 101 (Nat.le_of_ble_eq_true rfl)) wt_L101 rfl wp_tr_mostAtOnce_d46 ?_
  refine wt_geti hE wt_lf_tr_77 (hD 34 (Nat.le_of_ble_eq_true rfl)) wt_L34 rfl wp_tr_mostAtOnce_d49 ?_
  refine wt_ishl hE wp_tr_mostAtOnce_d52 ?_
  refine wt_icmp_ge hE 83 wp_tr_mostAtOnce_d53 rfl (fun c2 => ?_) (fun c2 => ?_)
  · have h := wt_ip c2 h
    refine wt_iload_n hE wp_tr_mostAtOnce_d83 rfl ?_
    cases h
    exact wt_iret hE hR wp_tr_mostAtOnce_d84
  · have h := wt_in c2 h
    refine wt_iload_n hE wp_tr_mostAtOnce_d56 rfl ?_
    obtain ⟨q3, hq3, h⟩ := wt_bi h
    refine wt_callSi hE [.int s.2.1] wt_lm_tr_83 wt_ya_jl_bitCount (wp_jl_bitCount_ok hq3) (by omega) rfl rfl (Nat.le_of_ble_eq_true rfl) (Nat.zero_le _) wp_tr_mostAtOnce_d57 (fun hbq3 => ?_)
    refine wt_iload_n hE wp_tr_mostAtOnce_d60 rfl ?_
    obtain ⟨q4, hq4, h⟩ := wt_bi h
    refine wt_callSi hE [.int s.1] wt_lm_tr_83 wt_ya_jl_bitCount (wp_jl_bitCount_ok hq4) (by omega) rfl rfl (Nat.le_of_ble_eq_true rfl) (Nat.zero_le _) wp_tr_mostAtOnce_d61 (fun hbq4 => ?_)
    refine wt_icmp_le hE 77 wp_tr_mostAtOnce_d64 rfl (fun c5 => ?_) (fun c5 => ?_)
    · have h := wt_ip c5 h
      exact wp_tr_mostAtOnce_B77_ok hE hR hD hK43 h
    · have h := wt_in c5 h
      refine wt_aload_n hE wp_tr_mostAtOnce_d67 rfl ?_
      refine wt_iload_n hE wp_tr_mostAtOnce_d68 rfl ?_
      obtain ⟨q6, hq6, h⟩ := wt_bi h
      refine wt_callVi hE [.int s.2.1] wt_lm_tr_88 wt_ya_tr_standAtOnce (wp_tr_standAtOnce_ok hD hq6) (by omega) (hD 101 (Nat.le_of_ble_eq_true rfl)) wt_L101 rfl rfl rfl (Nat.le_of_ble_eq_true rfl) (Nat.zero_le _) wp_tr_mostAtOnce_d69 (fun hbq6 => ?_)
      refine wt_if_eq hE 77 wp_tr_mostAtOnce_d72 rfl (fun c7 => ?_) (fun c7 => ?_)
      · have h := wt_ip c7 h
        exact wp_tr_mostAtOnce_B77_ok hE hR hD hK43 h
      · have h := wt_in c7 h
        refine wt_iload_n hE wp_tr_mostAtOnce_d75 rfl ?_
        refine wt_istore_n hE [some (.ref (wt_ad (wt_xw X) 101)), none, some (.int s.2.1), some (.int s.2.1)] wp_tr_mostAtOnce_d76 (by decide) rfl ?_
        exact wp_tr_mostAtOnce_B77_ok hE hR hD hK43 h
noncomputable def wp_tr_mostAtOnce_B2 (n : Nat) (x1 : Int32) (K2 : Int32 × wt_St → Option (Int32 × wt_St)) (s : Int32 × wt_St) : Option (Int32 × wt_St) :=
  if (26 : Int32) ≤ s.1 then
    wt_it (wp_tr_mostAtOnce_B43 n) n ((0 : Int32), (1 : Int32), s.2)
  else
    (wp_sk_ready n 40 s.1 x1 s.2).bind fun q8 =>
    if s.1 < 0 ∨ 26 ≤ Int32.toNatClampNeg s.1 then none else
    K2 ((s.1 + (1 : Int32)), (wt_sa q8.2 106 (Int32.toNatClampNeg s.1) q8.1))
set_option maxRecDepth 100000 in
set_option maxHeartbeats 4000000 in
theorem wp_tr_mostAtOnce_B2_ok  {x1 : Int32} {X : wt_X} {n : Nat} {res : Int32 × wt_St} (hE : wt_Ok X prog_10_method_4_code 4 "WornType$Trade" 3 0) (hR : wt_Rt X (some .int) (some res.1) res.2) (hD : ∀ i, i < 108 → wt_dom (wt_xw X) i)  {K2 : Int32 × wt_St → Option (Int32 × wt_St)} (hK2 : ∀ s : Int32 × wt_St, K2 s = some res → wt_V X 0 s.2 2 [some (.ref (wt_ad (wt_xw X) 101)), some (.int x1), some (.int s.1), none] []) {s : Int32 × wt_St} (h : wp_tr_mostAtOnce_B2 n x1 K2 s = some res) : wt_V X 0 s.2 2 [some (.ref (wt_ad (wt_xw X) 101)), some (.int x1), some (.int s.1), none] [] := by
  unfold wp_tr_mostAtOnce_B2 at h
  refine wt_iload_n hE wp_tr_mostAtOnce_d2 rfl ?_
  refine wt_aload_n hE wp_tr_mostAtOnce_d3 rfl ?_
  refine wt_getr hE (r := 106) wt_lf_tr_40 (hD 101 (Nat.le_of_ble_eq_true rfl)) wt_L101 rfl wp_tr_mostAtOnce_d4 ?_
  refine wt_alen hE (26 : Int32) (hD 106 (Nat.le_of_ble_eq_true rfl)) wt_L106 rfl wp_tr_mostAtOnce_d7 ?_
  refine wt_icmp_ge hE 39 wp_tr_mostAtOnce_d8 rfl (fun c1 => ?_) (fun c1 => ?_)
  · have h := wt_ip c1 h
    refine wt_iconst hE (0 : Int32) wp_tr_mostAtOnce_d39 wt_ci_0 ?_
    refine wt_istore_n hE [some (.ref (wt_ad (wt_xw X) 101)), some (.int x1), some (.int (0 : Int32)), none] wp_tr_mostAtOnce_d40 (by decide) rfl ?_
    refine wt_iconst hE (1 : Int32) wp_tr_mostAtOnce_d41 wt_ci_1 ?_
    refine wt_istore_n hE [some (.ref (wt_ad (wt_xw X) 101)), some (.int x1), some (.int (0 : Int32)), some (.int (1 : Int32))] wp_tr_mostAtOnce_d42 (by decide) rfl ?_
    refine wt_wk [true, false, true, true] rfl ?_
    exact wt_it_ind (fun z => wt_V X 0 z.2.2 43 [some (.ref (wt_ad (wt_xw X) 101)), none, some (.int z.1), some (.int z.2.1)] []) (fun K hK z h => wp_tr_mostAtOnce_B43_ok hE hR hD hK h) n ((0 : Int32), (1 : Int32), s.2) h
  · have h := wt_in c1 h
    refine wt_aload_n hE wp_tr_mostAtOnce_d11 rfl ?_
    refine wt_getr hE (r := 106) wt_lf_tr_40 (hD 101 (Nat.le_of_ble_eq_true rfl)) wt_L101 rfl wp_tr_mostAtOnce_d12 ?_
    refine wt_iload_n hE wp_tr_mostAtOnce_d15 rfl ?_
    refine wt_aload_n hE wp_tr_mostAtOnce_d16 rfl ?_
    refine wt_getr hE (r := 76) wt_lf_tr_23 (hD 101 (Nat.le_of_ble_eq_true rfl)) wt_L101 rfl wp_tr_mostAtOnce_d17 ?_
    refine wt_iload_n hE wp_tr_mostAtOnce_d20 rfl ?_
    refine wt_iload_n hE wp_tr_mostAtOnce_d21 rfl ?_
    refine wt_aload_n hE wp_tr_mostAtOnce_d22 rfl ?_
    refine wt_getr hE (r := 39) wt_lf_tr_19 (hD 101 (Nat.le_of_ble_eq_true rfl)) wt_L101 rfl wp_tr_mostAtOnce_d23 ?_
    refine wt_getr hE (r := 40) wt_lf_tr_69 (hD 39 (Nat.le_of_ble_eq_true rfl)) wt_L39 rfl wp_tr_mostAtOnce_d26 ?_
    obtain ⟨q8, hq8, h⟩ := wt_bi h
    refine wt_callVi hE [.int s.1, .int x1, .ref (wt_ad (wt_xw X) 40)] wt_lm_tr_74 wt_ya_sk_ready (wp_sk_ready_ok hD (wt_lnE wt_L40) (hD 40 (Nat.le_of_ble_eq_true rfl)) hq8) (by omega) (hD 76 (Nat.le_of_ble_eq_true rfl)) wt_L76 rfl rfl rfl (Nat.le_of_ble_eq_true rfl) (Nat.zero_le _) wp_tr_mostAtOnce_d29 (fun hbq8 => ?_)
    obtain ⟨g9, h⟩ := wt_gd h
    refine wt_iast hE (hD 106 (Nat.le_of_ble_eq_true rfl)) wt_L106 g9 wp_tr_mostAtOnce_d32 ?_
    refine wt_iinc hE (s.1 + (1 : Int32)) [some (.ref (wt_ad (wt_xw X) 101)), some (.int x1), some (.int (s.1 + (1 : Int32))), none] wp_tr_mostAtOnce_d33 (by decide) rfl rfl rfl ?_
    refine wt_goto hE 2 wp_tr_mostAtOnce_d36 rfl ?_
    exact hK2 ((s.1 + (1 : Int32)), (wt_sa q8.2 106 (Int32.toNatClampNeg s.1) q8.1)) h
noncomputable def wp_tr_mostAtOnce (n : Nat) (x1 : Int32) (σ : wt_St) : Option (Int32 × wt_St) :=
  wt_it (wp_tr_mostAtOnce_B2 n x1) n ((0 : Int32), σ)
set_option maxRecDepth 100000 in
set_option maxHeartbeats 4000000 in
theorem wp_tr_mostAtOnce_ok {l : Launch} {w : wt_E} {n : Nat} {x1 : Int32} (hD : ∀ i, i < 108 → wt_dom w i) {σ : wt_St} {q : Int32 × wt_St} (h : wp_tr_mostAtOnce n x1 σ = some q) : wt_Ctr l w wt_y_tr_mostAtOnce prog_10_method_4_code 4 (some .int) 3 [.ref (wt_ad w 101), .int x1] σ (some q.1) q.2 := by
  refine wt_ctr wt_pl_tr_mostAtOnce rfl (Nat.le_of_ble_eq_true rfl) [some (.ref (wt_ad w 101)), some (.int x1), none, none] rfl ?_
  intro X hXl hXw hE hR
  subst hXl
  subst hXw
  have hE : wt_Ok X prog_10_method_4_code 4 "WornType$Trade" 3 0 := hE
  unfold wp_tr_mostAtOnce at h
  refine wt_iconst hE (0 : Int32) wp_tr_mostAtOnce_d0 wt_ci_0 ?_
  refine wt_istore_n hE [some (.ref (wt_ad (wt_xw X) 101)), some (.int x1), some (.int (0 : Int32)), none] wp_tr_mostAtOnce_d1 (by decide) rfl ?_
  exact wt_it_ind (fun z => wt_V X 0 z.2 2 [some (.ref (wt_ad (wt_xw X) 101)), some (.int x1), some (.int z.1), none] []) (fun K hK z h => wp_tr_mostAtOnce_B2_ok hE hR hD hK h) n ((0 : Int32), σ) h
def wb14m4_prog_3_method_3_code_r1 : List (List Nat) := [167, 255, 232, 27, 172] :: []
def wb14m4_prog_3_method_3_code_r0 : List (List Nat) := [3, 60, 3, 61, 28, 7, 162, 0, 25, 27, 42, 28, 182, 0, 50, 153, 0, 7, 4, 167, 0, 4, 3, 96, 60, 132, 2, 1] :: wb14m4_prog_3_method_3_code_r1
set_option maxRecDepth 100000 in
theorem wb14m4_prog_3_method_3_code_c0 : wt_cs prog_3_method_3_code 0 wb14m4_prog_3_method_3_code_r0 := wt_cs_of (by decide +kernel)
theorem wb14m4_prog_3_method_3_code_c1 : wt_cs prog_3_method_3_code 28 wb14m4_prog_3_method_3_code_r1 := wt_cs_tl (m := 28) wb14m4_prog_3_method_3_code_c0 rfl rfl
theorem wp_pg_standing_d0 : decode prog_3_method_3_code 0 = .ok (.iconst 0, 1) := wt_op3 wb14m4_prog_3_method_3_code_c0 0 rfl rfl
theorem wp_pg_standing_d1 : decode prog_3_method_3_code 1 = .ok (.istore_n 1, 1) := wt_op60 wb14m4_prog_3_method_3_code_c0 1 rfl rfl
theorem wp_pg_standing_d2 : decode prog_3_method_3_code 2 = .ok (.iconst 0, 1) := wt_op3 wb14m4_prog_3_method_3_code_c0 2 rfl rfl
theorem wp_pg_standing_d3 : decode prog_3_method_3_code 3 = .ok (.istore_n 2, 1) := wt_op61 wb14m4_prog_3_method_3_code_c0 3 rfl rfl
theorem wp_pg_standing_d4 : decode prog_3_method_3_code 4 = .ok (.iload_n 2, 1) := wt_op28 wb14m4_prog_3_method_3_code_c0 4 rfl rfl
theorem wp_pg_standing_d5 : decode prog_3_method_3_code 5 = .ok (.iconst 4, 1) := wt_op7 wb14m4_prog_3_method_3_code_c0 5 rfl rfl
theorem wp_pg_standing_d6 : decode prog_3_method_3_code 6 = .ok (.if_icmp .ge 25, 3) := wt_op162 wb14m4_prog_3_method_3_code_c0 6 rfl rfl rfl
theorem wp_pg_standing_d9 : decode prog_3_method_3_code 9 = .ok (.iload_n 1, 1) := wt_op27 wb14m4_prog_3_method_3_code_c0 9 rfl rfl
theorem wp_pg_standing_d10 : decode prog_3_method_3_code 10 = .ok (.aload_n 0, 1) := wt_op42 wb14m4_prog_3_method_3_code_c0 10 rfl rfl
theorem wp_pg_standing_d11 : decode prog_3_method_3_code 11 = .ok (.iload_n 2, 1) := wt_op28 wb14m4_prog_3_method_3_code_c0 11 rfl rfl
theorem wp_pg_standing_d12 : decode prog_3_method_3_code 12 = .ok (.invokevirtual 50, 3) := wt_op182 wb14m4_prog_3_method_3_code_c0 12 rfl rfl rfl
theorem wp_pg_standing_d15 : decode prog_3_method_3_code 15 = .ok (.ifCond .eq 7, 3) := wt_op153 wb14m4_prog_3_method_3_code_c0 15 rfl rfl rfl
theorem wp_pg_standing_d18 : decode prog_3_method_3_code 18 = .ok (.iconst 1, 1) := wt_op4 wb14m4_prog_3_method_3_code_c0 18 rfl rfl
theorem wp_pg_standing_d19 : decode prog_3_method_3_code 19 = .ok (.goto 4, 3) := wt_op167 wb14m4_prog_3_method_3_code_c0 19 rfl rfl rfl
theorem wp_pg_standing_d22 : decode prog_3_method_3_code 22 = .ok (.iconst 0, 1) := wt_op3 wb14m4_prog_3_method_3_code_c0 22 rfl rfl
theorem wp_pg_standing_d23 : decode prog_3_method_3_code 23 = .ok (.iadd, 1) := wt_op96 wb14m4_prog_3_method_3_code_c0 23 rfl rfl
theorem wp_pg_standing_d24 : decode prog_3_method_3_code 24 = .ok (.istore_n 1, 1) := wt_op60 wb14m4_prog_3_method_3_code_c0 24 rfl rfl
theorem wp_pg_standing_d25 : decode prog_3_method_3_code 25 = .ok (.iinc 2 1, 3) := wt_op132 wb14m4_prog_3_method_3_code_c0 25 rfl rfl rfl
theorem wp_pg_standing_d28 : decode prog_3_method_3_code 28 = .ok (.goto (-24), 3) := wt_op167 wb14m4_prog_3_method_3_code_c1 0 rfl rfl rfl
theorem wp_pg_standing_d31 : decode prog_3_method_3_code 31 = .ok (.iload_n 1, 1) := wt_op27 wb14m4_prog_3_method_3_code_c1 3 rfl rfl
theorem wp_pg_standing_d32 : decode prog_3_method_3_code 32 = .ok (.ireturn, 1) := wt_op172 wb14m4_prog_3_method_3_code_c1 4 rfl rfl
noncomputable def wp_pg_standing_B23 (n : Nat) (x2 : Int32) (K4 : Int32 × Int32 × wt_St → Option (Int32 × wt_St)) (y0 : Int32) (y1 : Int32) (σ : wt_St) : Option (Int32 × wt_St) :=
  K4 ((y0 + y1), (x2 + (1 : Int32)), σ)
set_option maxRecDepth 100000 in
set_option maxHeartbeats 4000000 in
theorem wp_pg_standing_B23_ok  {x2 : Int32} {X : wt_X} {n : Nat} {res : Int32 × wt_St} (hE : wt_Ok X prog_3_method_3_code 3 "WornType$Pages" 2 0) (hR : wt_Rt X (some .int) (some res.1) res.2) (hD : ∀ i, i < 108 → wt_dom (wt_xw X) i)  {K4 : Int32 × Int32 × wt_St → Option (Int32 × wt_St)} (hK4 : ∀ s : Int32 × Int32 × wt_St, K4 s = some res → wt_V X 0 s.2.2 4 [some (.ref (wt_ad (wt_xw X) 77)), some (.int s.1), some (.int s.2.1)] []) {σ : wt_St} {y0 : Int32} {y1 : Int32} (h : wp_pg_standing_B23 n x2 K4 y0 y1 σ = some res) : wt_V X 0 σ 23 [some (.ref (wt_ad (wt_xw X) 77)), none, some (.int x2)] [.int y1, .int y0] := by
  unfold wp_pg_standing_B23 at h
  refine wt_iadd hE wp_pg_standing_d23 ?_
  refine wt_istore_n hE [some (.ref (wt_ad (wt_xw X) 77)), some (.int (y0 + y1)), some (.int x2)] wp_pg_standing_d24 (by decide) rfl ?_
  refine wt_iinc hE (x2 + (1 : Int32)) [some (.ref (wt_ad (wt_xw X) 77)), some (.int (y0 + y1)), some (.int (x2 + (1 : Int32)))] wp_pg_standing_d25 (by decide) rfl rfl rfl ?_
  refine wt_goto hE 4 wp_pg_standing_d28 rfl ?_
  exact hK4 ((y0 + y1), (x2 + (1 : Int32)), σ) h
noncomputable def wp_pg_standing_B4 (n : Nat) (K4 : Int32 × Int32 × wt_St → Option (Int32 × wt_St)) (s : Int32 × Int32 × wt_St) : Option (Int32 × wt_St) :=
  if (4 : Int32) ≤ s.2.1 then
    some (s.1, s.2.2)
  else
    (wp_pg_stands n s.2.1 s.2.2).bind fun q2 =>
    if q2.1 = 0 then
      wp_pg_standing_B23 n s.2.1 K4 s.1 (0 : Int32) q2.2
    else
      wp_pg_standing_B23 n s.2.1 K4 s.1 (1 : Int32) q2.2
set_option maxRecDepth 100000 in
set_option maxHeartbeats 4000000 in
theorem wp_pg_standing_B4_ok  {X : wt_X} {n : Nat} {res : Int32 × wt_St} (hE : wt_Ok X prog_3_method_3_code 3 "WornType$Pages" 2 0) (hR : wt_Rt X (some .int) (some res.1) res.2) (hD : ∀ i, i < 108 → wt_dom (wt_xw X) i)  {K4 : Int32 × Int32 × wt_St → Option (Int32 × wt_St)} (hK4 : ∀ s : Int32 × Int32 × wt_St, K4 s = some res → wt_V X 0 s.2.2 4 [some (.ref (wt_ad (wt_xw X) 77)), some (.int s.1), some (.int s.2.1)] []) {s : Int32 × Int32 × wt_St} (h : wp_pg_standing_B4 n K4 s = some res) : wt_V X 0 s.2.2 4 [some (.ref (wt_ad (wt_xw X) 77)), some (.int s.1), some (.int s.2.1)] [] := by
  unfold wp_pg_standing_B4 at h
  refine wt_iload_n hE wp_pg_standing_d4 rfl ?_
  refine wt_iconst hE (4 : Int32) wp_pg_standing_d5 wt_ci_4 ?_
  refine wt_icmp_ge hE 31 wp_pg_standing_d6 rfl (fun c1 => ?_) (fun c1 => ?_)
  · have h := wt_ip c1 h
    refine wt_iload_n hE wp_pg_standing_d31 rfl ?_
    cases h
    exact wt_iret hE hR wp_pg_standing_d32
  · have h := wt_in c1 h
    refine wt_iload_n hE wp_pg_standing_d9 rfl ?_
    refine wt_aload_n hE wp_pg_standing_d10 rfl ?_
    refine wt_iload_n hE wp_pg_standing_d11 rfl ?_
    obtain ⟨q2, hq2, h⟩ := wt_bi h
    refine wt_callVi hE [.int s.2.1] wt_lm_pg_50 wt_ya_pg_stands (wp_pg_stands_ok hD hq2) (by omega) (hD 77 (Nat.le_of_ble_eq_true rfl)) wt_L77 rfl rfl rfl (Nat.le_of_ble_eq_true rfl) (Nat.zero_le _) wp_pg_standing_d12 (fun hbq2 => ?_)
    refine wt_if_eq hE 22 wp_pg_standing_d15 rfl (fun c3 => ?_) (fun c3 => ?_)
    · have h := wt_ip c3 h
      refine wt_iconst hE (0 : Int32) wp_pg_standing_d22 wt_ci_0 ?_
      refine wt_wk [true, false, true] rfl ?_
      exact wp_pg_standing_B23_ok hE hR hD hK4 h
    · have h := wt_in c3 h
      refine wt_iconst hE (1 : Int32) wp_pg_standing_d18 wt_ci_1 ?_
      refine wt_goto hE 23 wp_pg_standing_d19 rfl ?_
      refine wt_wk [true, false, true] rfl ?_
      exact wp_pg_standing_B23_ok hE hR hD hK4 h
noncomputable def wp_pg_standing (n : Nat) (σ : wt_St) : Option (Int32 × wt_St) :=
  wt_it (wp_pg_standing_B4 n) n ((0 : Int32), (0 : Int32), σ)
set_option maxRecDepth 100000 in
set_option maxHeartbeats 4000000 in
theorem wp_pg_standing_ok {l : Launch} {w : wt_E} {n : Nat} (hD : ∀ i, i < 108 → wt_dom w i) {σ : wt_St} {q : Int32 × wt_St} (h : wp_pg_standing n σ = some q) : wt_Ctr l w wt_y_pg_standing prog_3_method_3_code 3 (some .int) 2 [.ref (wt_ad w 77)] σ (some q.1) q.2 := by
  refine wt_ctr wt_pl_pg_standing rfl (Nat.le_of_ble_eq_true rfl) [some (.ref (wt_ad w 77)), none, none] rfl ?_
  intro X hXl hXw hE hR
  subst hXl
  subst hXw
  have hE : wt_Ok X prog_3_method_3_code 3 "WornType$Pages" 2 0 := hE
  unfold wp_pg_standing at h
  refine wt_iconst hE (0 : Int32) wp_pg_standing_d0 wt_ci_0 ?_
  refine wt_istore_n hE [some (.ref (wt_ad (wt_xw X) 77)), some (.int (0 : Int32)), none] wp_pg_standing_d1 (by decide) rfl ?_
  refine wt_iconst hE (0 : Int32) wp_pg_standing_d2 wt_ci_0 ?_
  refine wt_istore_n hE [some (.ref (wt_ad (wt_xw X) 77)), some (.int (0 : Int32)), some (.int (0 : Int32))] wp_pg_standing_d3 (by decide) rfl ?_
  exact wt_it_ind (fun z => wt_V X 0 z.2.2 4 [some (.ref (wt_ad (wt_xw X) 77)), some (.int z.1), some (.int z.2.1)] []) (fun K hK z h => wp_pg_standing_B4_ok hE hR hD hK h) n ((0 : Int32), (0 : Int32), σ) h
def wb14m4_prog_9_method_2_code_r2 : List (List Nat) := [42, 180, 0, 27, 184, 0, 30, 42, 43, 180, 0, 34, 181, 0, 34, 42, 43, 180, 0, 38, 181, 0, 38, 177] :: []
def wb14m4_prog_9_method_2_code_r1 : List (List Nat) := [184, 0, 30, 43, 180, 0, 21, 42, 180, 0, 21, 184, 0, 30, 43, 180, 0, 24, 42, 180, 0, 24, 184, 0, 30, 43, 180, 0, 27] :: wb14m4_prog_9_method_2_code_r2
def wb14m4_prog_9_method_2_code_r0 : List (List Nat) := [43, 180, 0, 9, 42, 180, 0, 9, 184, 0, 30, 43, 180, 0, 15, 42, 180, 0, 15, 184, 0, 30, 43, 180, 0, 18, 42, 180, 0, 18] :: wb14m4_prog_9_method_2_code_r1
set_option maxRecDepth 100000 in
theorem wb14m4_prog_9_method_2_code_c0 : wt_cs prog_9_method_2_code 0 wb14m4_prog_9_method_2_code_r0 := wt_cs_of (by decide +kernel)
theorem wb14m4_prog_9_method_2_code_c1 : wt_cs prog_9_method_2_code 30 wb14m4_prog_9_method_2_code_r1 := wt_cs_tl (m := 30) wb14m4_prog_9_method_2_code_c0 rfl rfl
theorem wb14m4_prog_9_method_2_code_c2 : wt_cs prog_9_method_2_code 59 wb14m4_prog_9_method_2_code_r2 := wt_cs_tl (m := 29) wb14m4_prog_9_method_2_code_c1 rfl rfl
theorem wp_tg_become_d0 : decode prog_9_method_2_code 0 = .ok (.aload_n 1, 1) := wt_op43 wb14m4_prog_9_method_2_code_c0 0 rfl rfl
theorem wp_tg_become_d1 : decode prog_9_method_2_code 1 = .ok (.getfield 9, 3) := wt_op180 wb14m4_prog_9_method_2_code_c0 1 rfl rfl rfl
theorem wp_tg_become_d4 : decode prog_9_method_2_code 4 = .ok (.aload_n 0, 1) := wt_op42 wb14m4_prog_9_method_2_code_c0 4 rfl rfl
theorem wp_tg_become_d5 : decode prog_9_method_2_code 5 = .ok (.getfield 9, 3) := wt_op180 wb14m4_prog_9_method_2_code_c0 5 rfl rfl rfl
theorem wp_tg_become_d8 : decode prog_9_method_2_code 8 = .ok (.invokestatic 30, 3) := wt_op184 wb14m4_prog_9_method_2_code_c0 8 rfl rfl rfl
theorem wp_tg_become_d11 : decode prog_9_method_2_code 11 = .ok (.aload_n 1, 1) := wt_op43 wb14m4_prog_9_method_2_code_c0 11 rfl rfl
theorem wp_tg_become_d12 : decode prog_9_method_2_code 12 = .ok (.getfield 15, 3) := wt_op180 wb14m4_prog_9_method_2_code_c0 12 rfl rfl rfl
theorem wp_tg_become_d15 : decode prog_9_method_2_code 15 = .ok (.aload_n 0, 1) := wt_op42 wb14m4_prog_9_method_2_code_c0 15 rfl rfl
theorem wp_tg_become_d16 : decode prog_9_method_2_code 16 = .ok (.getfield 15, 3) := wt_op180 wb14m4_prog_9_method_2_code_c0 16 rfl rfl rfl
theorem wp_tg_become_d19 : decode prog_9_method_2_code 19 = .ok (.invokestatic 30, 3) := wt_op184 wb14m4_prog_9_method_2_code_c0 19 rfl rfl rfl
theorem wp_tg_become_d22 : decode prog_9_method_2_code 22 = .ok (.aload_n 1, 1) := wt_op43 wb14m4_prog_9_method_2_code_c0 22 rfl rfl
theorem wp_tg_become_d23 : decode prog_9_method_2_code 23 = .ok (.getfield 18, 3) := wt_op180 wb14m4_prog_9_method_2_code_c0 23 rfl rfl rfl
theorem wp_tg_become_d26 : decode prog_9_method_2_code 26 = .ok (.aload_n 0, 1) := wt_op42 wb14m4_prog_9_method_2_code_c0 26 rfl rfl
theorem wp_tg_become_d27 : decode prog_9_method_2_code 27 = .ok (.getfield 18, 3) := wt_op180 wb14m4_prog_9_method_2_code_c0 27 rfl rfl rfl
theorem wp_tg_become_d30 : decode prog_9_method_2_code 30 = .ok (.invokestatic 30, 3) := wt_op184 wb14m4_prog_9_method_2_code_c1 0 rfl rfl rfl
theorem wp_tg_become_d33 : decode prog_9_method_2_code 33 = .ok (.aload_n 1, 1) := wt_op43 wb14m4_prog_9_method_2_code_c1 3 rfl rfl
theorem wp_tg_become_d34 : decode prog_9_method_2_code 34 = .ok (.getfield 21, 3) := wt_op180 wb14m4_prog_9_method_2_code_c1 4 rfl rfl rfl
theorem wp_tg_become_d37 : decode prog_9_method_2_code 37 = .ok (.aload_n 0, 1) := wt_op42 wb14m4_prog_9_method_2_code_c1 7 rfl rfl
theorem wp_tg_become_d38 : decode prog_9_method_2_code 38 = .ok (.getfield 21, 3) := wt_op180 wb14m4_prog_9_method_2_code_c1 8 rfl rfl rfl
theorem wp_tg_become_d41 : decode prog_9_method_2_code 41 = .ok (.invokestatic 30, 3) := wt_op184 wb14m4_prog_9_method_2_code_c1 11 rfl rfl rfl
theorem wp_tg_become_d44 : decode prog_9_method_2_code 44 = .ok (.aload_n 1, 1) := wt_op43 wb14m4_prog_9_method_2_code_c1 14 rfl rfl
theorem wp_tg_become_d45 : decode prog_9_method_2_code 45 = .ok (.getfield 24, 3) := wt_op180 wb14m4_prog_9_method_2_code_c1 15 rfl rfl rfl
theorem wp_tg_become_d48 : decode prog_9_method_2_code 48 = .ok (.aload_n 0, 1) := wt_op42 wb14m4_prog_9_method_2_code_c1 18 rfl rfl
theorem wp_tg_become_d49 : decode prog_9_method_2_code 49 = .ok (.getfield 24, 3) := wt_op180 wb14m4_prog_9_method_2_code_c1 19 rfl rfl rfl
theorem wp_tg_become_d52 : decode prog_9_method_2_code 52 = .ok (.invokestatic 30, 3) := wt_op184 wb14m4_prog_9_method_2_code_c1 22 rfl rfl rfl
theorem wp_tg_become_d55 : decode prog_9_method_2_code 55 = .ok (.aload_n 1, 1) := wt_op43 wb14m4_prog_9_method_2_code_c1 25 rfl rfl
theorem wp_tg_become_d56 : decode prog_9_method_2_code 56 = .ok (.getfield 27, 3) := wt_op180 wb14m4_prog_9_method_2_code_c1 26 rfl rfl rfl
theorem wp_tg_become_d59 : decode prog_9_method_2_code 59 = .ok (.aload_n 0, 1) := wt_op42 wb14m4_prog_9_method_2_code_c2 0 rfl rfl
theorem wp_tg_become_d60 : decode prog_9_method_2_code 60 = .ok (.getfield 27, 3) := wt_op180 wb14m4_prog_9_method_2_code_c2 1 rfl rfl rfl
theorem wp_tg_become_d63 : decode prog_9_method_2_code 63 = .ok (.invokestatic 30, 3) := wt_op184 wb14m4_prog_9_method_2_code_c2 4 rfl rfl rfl
theorem wp_tg_become_d66 : decode prog_9_method_2_code 66 = .ok (.aload_n 0, 1) := wt_op42 wb14m4_prog_9_method_2_code_c2 7 rfl rfl
theorem wp_tg_become_d67 : decode prog_9_method_2_code 67 = .ok (.aload_n 1, 1) := wt_op43 wb14m4_prog_9_method_2_code_c2 8 rfl rfl
theorem wp_tg_become_d68 : decode prog_9_method_2_code 68 = .ok (.getfield 34, 3) := wt_op180 wb14m4_prog_9_method_2_code_c2 9 rfl rfl rfl
theorem wp_tg_become_d71 : decode prog_9_method_2_code 71 = .ok (.putfield 34, 3) := wt_op181 wb14m4_prog_9_method_2_code_c2 12 rfl rfl rfl
theorem wp_tg_become_d74 : decode prog_9_method_2_code 74 = .ok (.aload_n 0, 1) := wt_op42 wb14m4_prog_9_method_2_code_c2 15 rfl rfl
theorem wp_tg_become_d75 : decode prog_9_method_2_code 75 = .ok (.aload_n 1, 1) := wt_op43 wb14m4_prog_9_method_2_code_c2 16 rfl rfl
theorem wp_tg_become_d76 : decode prog_9_method_2_code 76 = .ok (.getfield 38, 3) := wt_op180 wb14m4_prog_9_method_2_code_c2 17 rfl rfl rfl
theorem wp_tg_become_d79 : decode prog_9_method_2_code 79 = .ok (.putfield 38, 3) := wt_op181 wb14m4_prog_9_method_2_code_c2 20 rfl rfl rfl
theorem wp_tg_become_d82 : decode prog_9_method_2_code 82 = .ok (.return_, 1) := wt_op177 wb14m4_prog_9_method_2_code_c2 23 rfl rfl
noncomputable def wp_tg_become (n : Nat) (t0 : Nat) (t1 : Nat) (σ : wt_St) : Option (wt_St) :=
  (wp_ap_copyRow n (t1 + 1) (t0 + 1) σ).bind fun q1 =>
  (wp_ap_copyRow n (t1 + 2) (t0 + 2) q1).bind fun q2 =>
  (wp_ap_copyRow n (t1 + 3) (t0 + 3) q2).bind fun q3 =>
  (wp_ap_copyRow n (t1 + 4) (t0 + 4) q3).bind fun q4 =>
  (wp_ap_copyRow n (t1 + 5) (t0 + 5) q4).bind fun q5 =>
  (wp_ap_copyRow n (t1 + 6) (t0 + 6) q5).bind fun q6 =>
  some (wt_sf (wt_sf q6 t0 6 (wt_gf q6 t1 6)) t0 7 (wt_gf (wt_sf q6 t0 6 (wt_gf q6 t1 6)) t1 7))
set_option maxRecDepth 100000 in
set_option maxHeartbeats 4000000 in
theorem wp_tg_become_ok {l : Launch} {w : wt_E} {n : Nat} {t0 : Nat} {t1 : Nat} (hI_t0 : wt_isTongue t0) (hT_t0 : ∀ j, j < 7 → wt_dom w (t0 + j)) (hI_t1 : wt_isTongue t1) (hT_t1 : ∀ j, j < 7 → wt_dom w (t1 + j)) {σ : wt_St} {q : wt_St} (h : wp_tg_become n t0 t1 σ = some q) : wt_Ctr l w wt_y_tg_become prog_9_method_2_code 2 none 1 [.ref (wt_ad w t0), .ref (wt_ad w t1)] σ none q := by
  refine wt_ctr wt_pl_tg_become rfl (Nat.le_of_ble_eq_true rfl) [some (.ref (wt_ad w t0)), some (.ref (wt_ad w t1))] rfl ?_
  intro X hXl hXw hE hR
  subst hXl
  subst hXw
  have hE : wt_Ok X prog_9_method_2_code 2 "WornType$Tongue" 1 0 := hE
  unfold wp_tg_become at h
  refine wt_aload_n hE wp_tg_become_d0 rfl ?_
  refine wt_getr hE (r := (t1 + 1)) wt_lf_tg_9 (hT_t1 0 (Nat.le_of_ble_eq_true rfl)) (hI_t1.1) rfl wp_tg_become_d1 ?_
  refine wt_aload_n hE wp_tg_become_d4 rfl ?_
  refine wt_getr hE (r := (t0 + 1)) wt_lf_tg_9 (hT_t0 0 (Nat.le_of_ble_eq_true rfl)) (hI_t0.1) rfl wp_tg_become_d5 ?_
  obtain ⟨q1, hq1, h⟩ := wt_bi h
  refine wt_callSv hE [.ref (wt_ad (wt_xw X) ((t1 + 1))), .ref (wt_ad (wt_xw X) ((t0 + 1)))] wt_lm_tg_30 wt_ya_ap_copyRow (wp_ap_copyRow_ok (wt_lnE (wt_isTongue_L1 hI_t1)) (hT_t1 1 (Nat.le_of_ble_eq_true rfl)) (wt_lnE (wt_isTongue_L1 hI_t0)) (hT_t0 1 (Nat.le_of_ble_eq_true rfl)) hq1) (by omega) rfl rfl (Nat.le_of_ble_eq_true rfl) (Nat.zero_le _) wp_tg_become_d8 ?_
  refine wt_aload_n hE wp_tg_become_d11 rfl ?_
  refine wt_getr hE (r := (t1 + 2)) wt_lf_tg_15 (hT_t1 0 (Nat.le_of_ble_eq_true rfl)) (hI_t1.1) rfl wp_tg_become_d12 ?_
  refine wt_aload_n hE wp_tg_become_d15 rfl ?_
  refine wt_getr hE (r := (t0 + 2)) wt_lf_tg_15 (hT_t0 0 (Nat.le_of_ble_eq_true rfl)) (hI_t0.1) rfl wp_tg_become_d16 ?_
  obtain ⟨q2, hq2, h⟩ := wt_bi h
  refine wt_callSv hE [.ref (wt_ad (wt_xw X) ((t1 + 2))), .ref (wt_ad (wt_xw X) ((t0 + 2)))] wt_lm_tg_30 wt_ya_ap_copyRow (wp_ap_copyRow_ok (wt_lnE (wt_isTongue_L2 hI_t1)) (hT_t1 2 (Nat.le_of_ble_eq_true rfl)) (wt_lnE (wt_isTongue_L2 hI_t0)) (hT_t0 2 (Nat.le_of_ble_eq_true rfl)) hq2) (by omega) rfl rfl (Nat.le_of_ble_eq_true rfl) (Nat.zero_le _) wp_tg_become_d19 ?_
  refine wt_aload_n hE wp_tg_become_d22 rfl ?_
  refine wt_getr hE (r := (t1 + 3)) wt_lf_tg_18 (hT_t1 0 (Nat.le_of_ble_eq_true rfl)) (hI_t1.1) rfl wp_tg_become_d23 ?_
  refine wt_aload_n hE wp_tg_become_d26 rfl ?_
  refine wt_getr hE (r := (t0 + 3)) wt_lf_tg_18 (hT_t0 0 (Nat.le_of_ble_eq_true rfl)) (hI_t0.1) rfl wp_tg_become_d27 ?_
  obtain ⟨q3, hq3, h⟩ := wt_bi h
  refine wt_callSv hE [.ref (wt_ad (wt_xw X) ((t1 + 3))), .ref (wt_ad (wt_xw X) ((t0 + 3)))] wt_lm_tg_30 wt_ya_ap_copyRow (wp_ap_copyRow_ok (wt_lnE (wt_isTongue_L3 hI_t1)) (hT_t1 3 (Nat.le_of_ble_eq_true rfl)) (wt_lnE (wt_isTongue_L3 hI_t0)) (hT_t0 3 (Nat.le_of_ble_eq_true rfl)) hq3) (by omega) rfl rfl (Nat.le_of_ble_eq_true rfl) (Nat.zero_le _) wp_tg_become_d30 ?_
  refine wt_aload_n hE wp_tg_become_d33 rfl ?_
  refine wt_getr hE (r := (t1 + 4)) wt_lf_tg_21 (hT_t1 0 (Nat.le_of_ble_eq_true rfl)) (hI_t1.1) rfl wp_tg_become_d34 ?_
  refine wt_aload_n hE wp_tg_become_d37 rfl ?_
  refine wt_getr hE (r := (t0 + 4)) wt_lf_tg_21 (hT_t0 0 (Nat.le_of_ble_eq_true rfl)) (hI_t0.1) rfl wp_tg_become_d38 ?_
  obtain ⟨q4, hq4, h⟩ := wt_bi h
  refine wt_callSv hE [.ref (wt_ad (wt_xw X) ((t1 + 4))), .ref (wt_ad (wt_xw X) ((t0 + 4)))] wt_lm_tg_30 wt_ya_ap_copyRow (wp_ap_copyRow_ok (wt_lnE (wt_isTongue_L4 hI_t1)) (hT_t1 4 (Nat.le_of_ble_eq_true rfl)) (wt_lnE (wt_isTongue_L4 hI_t0)) (hT_t0 4 (Nat.le_of_ble_eq_true rfl)) hq4) (by omega) rfl rfl (Nat.le_of_ble_eq_true rfl) (Nat.zero_le _) wp_tg_become_d41 ?_
  refine wt_aload_n hE wp_tg_become_d44 rfl ?_
  refine wt_getr hE (r := (t1 + 5)) wt_lf_tg_24 (hT_t1 0 (Nat.le_of_ble_eq_true rfl)) (hI_t1.1) rfl wp_tg_become_d45 ?_
  refine wt_aload_n hE wp_tg_become_d48 rfl ?_
  refine wt_getr hE (r := (t0 + 5)) wt_lf_tg_24 (hT_t0 0 (Nat.le_of_ble_eq_true rfl)) (hI_t0.1) rfl wp_tg_become_d49 ?_
  obtain ⟨q5, hq5, h⟩ := wt_bi h
  refine wt_callSv hE [.ref (wt_ad (wt_xw X) ((t1 + 5))), .ref (wt_ad (wt_xw X) ((t0 + 5)))] wt_lm_tg_30 wt_ya_ap_copyRow (wp_ap_copyRow_ok (wt_lnE (wt_isTongue_L5 hI_t1)) (hT_t1 5 (Nat.le_of_ble_eq_true rfl)) (wt_lnE (wt_isTongue_L5 hI_t0)) (hT_t0 5 (Nat.le_of_ble_eq_true rfl)) hq5) (by omega) rfl rfl (Nat.le_of_ble_eq_true rfl) (Nat.zero_le _) wp_tg_become_d52 ?_
  refine wt_aload_n hE wp_tg_become_d55 rfl ?_
  refine wt_getr hE (r := (t1 + 6)) wt_lf_tg_27 (hT_t1 0 (Nat.le_of_ble_eq_true rfl)) (hI_t1.1) rfl wp_tg_become_d56 ?_
  refine wt_aload_n hE wp_tg_become_d59 rfl ?_
  refine wt_getr hE (r := (t0 + 6)) wt_lf_tg_27 (hT_t0 0 (Nat.le_of_ble_eq_true rfl)) (hI_t0.1) rfl wp_tg_become_d60 ?_
  obtain ⟨q6, hq6, h⟩ := wt_bi h
  refine wt_callSv hE [.ref (wt_ad (wt_xw X) ((t1 + 6))), .ref (wt_ad (wt_xw X) ((t0 + 6)))] wt_lm_tg_30 wt_ya_ap_copyRow (wp_ap_copyRow_ok (wt_lnE (wt_isTongue_L6 hI_t1)) (hT_t1 6 (Nat.le_of_ble_eq_true rfl)) (wt_lnE (wt_isTongue_L6 hI_t0)) (hT_t0 6 (Nat.le_of_ble_eq_true rfl)) hq6) (by omega) rfl rfl (Nat.le_of_ble_eq_true rfl) (Nat.zero_le _) wp_tg_become_d63 ?_
  refine wt_aload_n hE wp_tg_become_d66 rfl ?_
  refine wt_aload_n hE wp_tg_become_d67 rfl ?_
  refine wt_geti hE wt_lf_tg_34 (hT_t1 0 (Nat.le_of_ble_eq_true rfl)) (hI_t1.1) rfl wp_tg_become_d68 ?_
  refine wt_puti hE wt_lf_tg_34 (hT_t0 0 (Nat.le_of_ble_eq_true rfl)) (hI_t0.1) rfl (fun q hq => by cases hq; rfl) wp_tg_become_d71 ?_
  refine wt_aload_n hE wp_tg_become_d74 rfl ?_
  refine wt_aload_n hE wp_tg_become_d75 rfl ?_
  refine wt_geti hE wt_lf_tg_38 (hT_t1 0 (Nat.le_of_ble_eq_true rfl)) (hI_t1.1) rfl wp_tg_become_d76 ?_
  refine wt_puti hE wt_lf_tg_38 (hT_t0 0 (Nat.le_of_ble_eq_true rfl)) (hI_t0.1) rfl (fun q hq => by cases hq; rfl) wp_tg_become_d79 ?_
  cases h
  exact wt_vret hE hR wp_tg_become_d82
def wb14m4_prog_9_method_13_code_r6 : List (List Nat) := [42, 180, 0, 38, 184, 0, 57, 42, 89, 180, 0, 34, 4, 96, 181, 0, 34, 4, 172] :: []
def wb14m4_prog_9_method_13_code_r5 : List (List Nat) := [180, 0, 34, 29, 184, 0, 57, 42, 180, 0, 18, 42, 180, 0, 34, 21, 4, 184, 0, 57, 42, 180, 0, 21, 42, 180, 0, 34] :: wb14m4_prog_9_method_13_code_r6
def wb14m4_prog_9_method_13_code_r4 : List (List Nat) := [153, 0, 12, 43, 3, 6, 182, 0, 102, 167, 0, 4, 3, 54, 4, 21, 4, 2, 160, 0, 5, 3, 172, 42, 180, 0, 15, 42] :: wb14m4_prog_9_method_13_code_r5
def wb14m4_prog_9_method_13_code_r3 : List (List Nat) := [16, 9, 104, 21, 4, 96, 43, 180, 0, 93, 21, 4, 184, 0, 41, 184, 0, 57, 132, 4, 1, 167, 255, 221, 43, 16, 47, 182, 0, 79] :: wb14m4_prog_9_method_13_code_r4
def wb14m4_prog_9_method_13_code_r2 : List (List Nat) := [16, 60, 161, 0, 9, 43, 6, 182, 0, 99, 172, 3, 54, 4, 21, 4, 29, 162, 0, 35, 42, 180, 0, 9, 42, 180, 0, 34] :: wb14m4_prog_9_method_13_code_r3
def wb14m4_prog_9_method_13_code_r1 : List (List Nat) := [2, 159, 0, 9, 43, 5, 182, 0, 99, 172, 42, 180, 0, 38, 16, 20, 162, 0, 17, 28, 8, 162, 0, 12, 42, 180, 0, 34] :: wb14m4_prog_9_method_13_code_r2
def wb14m4_prog_9_method_13_code_r0 : List (List Nat) := [43, 182, 0, 86, 154, 0, 5, 3, 172, 43, 182, 0, 89, 62, 29, 16, 9, 163, 0, 16, 42, 43, 180, 0, 93, 29, 182, 0, 96] :: wb14m4_prog_9_method_13_code_r1
set_option maxRecDepth 100000 in
theorem wb14m4_prog_9_method_13_code_c0 : wt_cs prog_9_method_13_code 0 wb14m4_prog_9_method_13_code_r0 := wt_cs_of (by decide +kernel)
theorem wb14m4_prog_9_method_13_code_c1 : wt_cs prog_9_method_13_code 29 wb14m4_prog_9_method_13_code_r1 := wt_cs_tl (m := 29) wb14m4_prog_9_method_13_code_c0 rfl rfl
theorem wb14m4_prog_9_method_13_code_c2 : wt_cs prog_9_method_13_code 57 wb14m4_prog_9_method_13_code_r2 := wt_cs_tl (m := 28) wb14m4_prog_9_method_13_code_c1 rfl rfl
theorem wb14m4_prog_9_method_13_code_c3 : wt_cs prog_9_method_13_code 85 wb14m4_prog_9_method_13_code_r3 := wt_cs_tl (m := 28) wb14m4_prog_9_method_13_code_c2 rfl rfl
theorem wb14m4_prog_9_method_13_code_c4 : wt_cs prog_9_method_13_code 115 wb14m4_prog_9_method_13_code_r4 := wt_cs_tl (m := 30) wb14m4_prog_9_method_13_code_c3 rfl rfl
theorem wb14m4_prog_9_method_13_code_c5 : wt_cs prog_9_method_13_code 143 wb14m4_prog_9_method_13_code_r5 := wt_cs_tl (m := 28) wb14m4_prog_9_method_13_code_c4 rfl rfl
theorem wb14m4_prog_9_method_13_code_c6 : wt_cs prog_9_method_13_code 171 wb14m4_prog_9_method_13_code_r6 := wt_cs_tl (m := 28) wb14m4_prog_9_method_13_code_c5 rfl rfl
theorem wp_tg_fillWord_d0 : decode prog_9_method_13_code 0 = .ok (.aload_n 1, 1) := wt_op43 wb14m4_prog_9_method_13_code_c0 0 rfl rfl
theorem wp_tg_fillWord_d1 : decode prog_9_method_13_code 1 = .ok (.invokevirtual 86, 3) := wt_op182 wb14m4_prog_9_method_13_code_c0 1 rfl rfl rfl
theorem wp_tg_fillWord_d4 : decode prog_9_method_13_code 4 = .ok (.ifCond .ne 5, 3) := wt_op154 wb14m4_prog_9_method_13_code_c0 4 rfl rfl rfl
theorem wp_tg_fillWord_d7 : decode prog_9_method_13_code 7 = .ok (.iconst 0, 1) := wt_op3 wb14m4_prog_9_method_13_code_c0 7 rfl rfl
theorem wp_tg_fillWord_d8 : decode prog_9_method_13_code 8 = .ok (.ireturn, 1) := wt_op172 wb14m4_prog_9_method_13_code_c0 8 rfl rfl
theorem wp_tg_fillWord_d9 : decode prog_9_method_13_code 9 = .ok (.aload_n 1, 1) := wt_op43 wb14m4_prog_9_method_13_code_c0 9 rfl rfl
theorem wp_tg_fillWord_d10 : decode prog_9_method_13_code 10 = .ok (.invokevirtual 89, 3) := wt_op182 wb14m4_prog_9_method_13_code_c0 10 rfl rfl rfl
theorem wp_tg_fillWord_d13 : decode prog_9_method_13_code 13 = .ok (.istore_n 3, 1) := wt_op62 wb14m4_prog_9_method_13_code_c0 13 rfl rfl
theorem wp_tg_fillWord_d14 : decode prog_9_method_13_code 14 = .ok (.iload_n 3, 1) := wt_op29 wb14m4_prog_9_method_13_code_c0 14 rfl rfl
theorem wp_tg_fillWord_d15 : decode prog_9_method_13_code 15 = .ok (.bipush 9, 2) := wt_op16 wb14m4_prog_9_method_13_code_c0 15 rfl rfl rfl
theorem wp_tg_fillWord_d17 : decode prog_9_method_13_code 17 = .ok (.if_icmp .gt 16, 3) := wt_op163 wb14m4_prog_9_method_13_code_c0 17 rfl rfl rfl
theorem wp_tg_fillWord_d20 : decode prog_9_method_13_code 20 = .ok (.aload_n 0, 1) := wt_op42 wb14m4_prog_9_method_13_code_c0 20 rfl rfl
theorem wp_tg_fillWord_d21 : decode prog_9_method_13_code 21 = .ok (.aload_n 1, 1) := wt_op43 wb14m4_prog_9_method_13_code_c0 21 rfl rfl
theorem wp_tg_fillWord_d22 : decode prog_9_method_13_code 22 = .ok (.getfield 93, 3) := wt_op180 wb14m4_prog_9_method_13_code_c0 22 rfl rfl rfl
theorem wp_tg_fillWord_d25 : decode prog_9_method_13_code 25 = .ok (.iload_n 3, 1) := wt_op29 wb14m4_prog_9_method_13_code_c0 25 rfl rfl
theorem wp_tg_fillWord_d26 : decode prog_9_method_13_code 26 = .ok (.invokevirtual 96, 3) := wt_op182 wb14m4_prog_9_method_13_code_c0 26 rfl rfl rfl
theorem wp_tg_fillWord_d29 : decode prog_9_method_13_code 29 = .ok (.iconst (-1), 1) := wt_op2 wb14m4_prog_9_method_13_code_c1 0 rfl rfl
theorem wp_tg_fillWord_d30 : decode prog_9_method_13_code 30 = .ok (.if_icmp .eq 9, 3) := wt_op159 wb14m4_prog_9_method_13_code_c1 1 rfl rfl rfl
theorem wp_tg_fillWord_d33 : decode prog_9_method_13_code 33 = .ok (.aload_n 1, 1) := wt_op43 wb14m4_prog_9_method_13_code_c1 4 rfl rfl
theorem wp_tg_fillWord_d34 : decode prog_9_method_13_code 34 = .ok (.iconst 2, 1) := wt_op5 wb14m4_prog_9_method_13_code_c1 5 rfl rfl
theorem wp_tg_fillWord_d35 : decode prog_9_method_13_code 35 = .ok (.invokevirtual 99, 3) := wt_op182 wb14m4_prog_9_method_13_code_c1 6 rfl rfl rfl
theorem wp_tg_fillWord_d38 : decode prog_9_method_13_code 38 = .ok (.ireturn, 1) := wt_op172 wb14m4_prog_9_method_13_code_c1 9 rfl rfl
theorem wp_tg_fillWord_d39 : decode prog_9_method_13_code 39 = .ok (.aload_n 0, 1) := wt_op42 wb14m4_prog_9_method_13_code_c1 10 rfl rfl
theorem wp_tg_fillWord_d40 : decode prog_9_method_13_code 40 = .ok (.getfield 38, 3) := wt_op180 wb14m4_prog_9_method_13_code_c1 11 rfl rfl rfl
theorem wp_tg_fillWord_d43 : decode prog_9_method_13_code 43 = .ok (.bipush 20, 2) := wt_op16 wb14m4_prog_9_method_13_code_c1 14 rfl rfl rfl
theorem wp_tg_fillWord_d45 : decode prog_9_method_13_code 45 = .ok (.if_icmp .ge 17, 3) := wt_op162 wb14m4_prog_9_method_13_code_c1 16 rfl rfl rfl
theorem wp_tg_fillWord_d48 : decode prog_9_method_13_code 48 = .ok (.iload_n 2, 1) := wt_op28 wb14m4_prog_9_method_13_code_c1 19 rfl rfl
theorem wp_tg_fillWord_d49 : decode prog_9_method_13_code 49 = .ok (.iconst 5, 1) := wt_op8 wb14m4_prog_9_method_13_code_c1 20 rfl rfl
theorem wp_tg_fillWord_d50 : decode prog_9_method_13_code 50 = .ok (.if_icmp .ge 12, 3) := wt_op162 wb14m4_prog_9_method_13_code_c1 21 rfl rfl rfl
theorem wp_tg_fillWord_d53 : decode prog_9_method_13_code 53 = .ok (.aload_n 0, 1) := wt_op42 wb14m4_prog_9_method_13_code_c1 24 rfl rfl
theorem wp_tg_fillWord_d54 : decode prog_9_method_13_code 54 = .ok (.getfield 34, 3) := wt_op180 wb14m4_prog_9_method_13_code_c1 25 rfl rfl rfl
theorem wp_tg_fillWord_d57 : decode prog_9_method_13_code 57 = .ok (.bipush 60, 2) := wt_op16 wb14m4_prog_9_method_13_code_c2 0 rfl rfl rfl
theorem wp_tg_fillWord_d59 : decode prog_9_method_13_code 59 = .ok (.if_icmp .lt 9, 3) := wt_op161 wb14m4_prog_9_method_13_code_c2 2 rfl rfl rfl
theorem wp_tg_fillWord_d62 : decode prog_9_method_13_code 62 = .ok (.aload_n 1, 1) := wt_op43 wb14m4_prog_9_method_13_code_c2 5 rfl rfl
theorem wp_tg_fillWord_d63 : decode prog_9_method_13_code 63 = .ok (.iconst 3, 1) := wt_op6 wb14m4_prog_9_method_13_code_c2 6 rfl rfl
theorem wp_tg_fillWord_d64 : decode prog_9_method_13_code 64 = .ok (.invokevirtual 99, 3) := wt_op182 wb14m4_prog_9_method_13_code_c2 7 rfl rfl rfl
theorem wp_tg_fillWord_d67 : decode prog_9_method_13_code 67 = .ok (.ireturn, 1) := wt_op172 wb14m4_prog_9_method_13_code_c2 10 rfl rfl
theorem wp_tg_fillWord_d68 : decode prog_9_method_13_code 68 = .ok (.iconst 0, 1) := wt_op3 wb14m4_prog_9_method_13_code_c2 11 rfl rfl
theorem wp_tg_fillWord_d69 : decode prog_9_method_13_code 69 = .ok (.istore 4, 2) := wt_op54 wb14m4_prog_9_method_13_code_c2 12 rfl rfl
theorem wp_tg_fillWord_d71 : decode prog_9_method_13_code 71 = .ok (.iload 4, 2) := wt_op21 wb14m4_prog_9_method_13_code_c2 14 rfl rfl
theorem wp_tg_fillWord_d73 : decode prog_9_method_13_code 73 = .ok (.iload_n 3, 1) := wt_op29 wb14m4_prog_9_method_13_code_c2 16 rfl rfl
theorem wp_tg_fillWord_d74 : decode prog_9_method_13_code 74 = .ok (.if_icmp .ge 35, 3) := wt_op162 wb14m4_prog_9_method_13_code_c2 17 rfl rfl rfl
theorem wp_tg_fillWord_d77 : decode prog_9_method_13_code 77 = .ok (.aload_n 0, 1) := wt_op42 wb14m4_prog_9_method_13_code_c2 20 rfl rfl
theorem wp_tg_fillWord_d78 : decode prog_9_method_13_code 78 = .ok (.getfield 9, 3) := wt_op180 wb14m4_prog_9_method_13_code_c2 21 rfl rfl rfl
theorem wp_tg_fillWord_d81 : decode prog_9_method_13_code 81 = .ok (.aload_n 0, 1) := wt_op42 wb14m4_prog_9_method_13_code_c2 24 rfl rfl
theorem wp_tg_fillWord_d82 : decode prog_9_method_13_code 82 = .ok (.getfield 34, 3) := wt_op180 wb14m4_prog_9_method_13_code_c2 25 rfl rfl rfl
theorem wp_tg_fillWord_d85 : decode prog_9_method_13_code 85 = .ok (.bipush 9, 2) := wt_op16 wb14m4_prog_9_method_13_code_c3 0 rfl rfl rfl
theorem wp_tg_fillWord_d87 : decode prog_9_method_13_code 87 = .ok (.imul, 1) := wt_op104 wb14m4_prog_9_method_13_code_c3 2 rfl rfl
theorem wp_tg_fillWord_d88 : decode prog_9_method_13_code 88 = .ok (.iload 4, 2) := wt_op21 wb14m4_prog_9_method_13_code_c3 3 rfl rfl
theorem wp_tg_fillWord_d90 : decode prog_9_method_13_code 90 = .ok (.iadd, 1) := wt_op96 wb14m4_prog_9_method_13_code_c3 5 rfl rfl
theorem wp_tg_fillWord_d91 : decode prog_9_method_13_code 91 = .ok (.aload_n 1, 1) := wt_op43 wb14m4_prog_9_method_13_code_c3 6 rfl rfl
theorem wp_tg_fillWord_d92 : decode prog_9_method_13_code 92 = .ok (.getfield 93, 3) := wt_op180 wb14m4_prog_9_method_13_code_c3 7 rfl rfl rfl
theorem wp_tg_fillWord_d95 : decode prog_9_method_13_code 95 = .ok (.iload 4, 2) := wt_op21 wb14m4_prog_9_method_13_code_c3 10 rfl rfl
theorem wp_tg_fillWord_d97 : decode prog_9_method_13_code 97 = .ok (.invokestatic 41, 3) := wt_op184 wb14m4_prog_9_method_13_code_c3 12 rfl rfl rfl
theorem wp_tg_fillWord_d100 : decode prog_9_method_13_code 100 = .ok (.invokestatic 57, 3) := wt_op184 wb14m4_prog_9_method_13_code_c3 15 rfl rfl rfl
theorem wp_tg_fillWord_d103 : decode prog_9_method_13_code 103 = .ok (.iinc 4 1, 3) := wt_op132 wb14m4_prog_9_method_13_code_c3 18 rfl rfl rfl
theorem wp_tg_fillWord_d106 : decode prog_9_method_13_code 106 = .ok (.goto (-35), 3) := wt_op167 wb14m4_prog_9_method_13_code_c3 21 rfl rfl rfl
theorem wp_tg_fillWord_d109 : decode prog_9_method_13_code 109 = .ok (.aload_n 1, 1) := wt_op43 wb14m4_prog_9_method_13_code_c3 24 rfl rfl
theorem wp_tg_fillWord_d110 : decode prog_9_method_13_code 110 = .ok (.bipush 47, 2) := wt_op16 wb14m4_prog_9_method_13_code_c3 25 rfl rfl rfl
theorem wp_tg_fillWord_d112 : decode prog_9_method_13_code 112 = .ok (.invokevirtual 79, 3) := wt_op182 wb14m4_prog_9_method_13_code_c3 27 rfl rfl rfl
theorem wp_tg_fillWord_d115 : decode prog_9_method_13_code 115 = .ok (.ifCond .eq 12, 3) := wt_op153 wb14m4_prog_9_method_13_code_c4 0 rfl rfl rfl
theorem wp_tg_fillWord_d118 : decode prog_9_method_13_code 118 = .ok (.aload_n 1, 1) := wt_op43 wb14m4_prog_9_method_13_code_c4 3 rfl rfl
theorem wp_tg_fillWord_d119 : decode prog_9_method_13_code 119 = .ok (.iconst 0, 1) := wt_op3 wb14m4_prog_9_method_13_code_c4 4 rfl rfl
theorem wp_tg_fillWord_d120 : decode prog_9_method_13_code 120 = .ok (.iconst 3, 1) := wt_op6 wb14m4_prog_9_method_13_code_c4 5 rfl rfl
theorem wp_tg_fillWord_d121 : decode prog_9_method_13_code 121 = .ok (.invokevirtual 102, 3) := wt_op182 wb14m4_prog_9_method_13_code_c4 6 rfl rfl rfl
theorem wp_tg_fillWord_d124 : decode prog_9_method_13_code 124 = .ok (.goto 4, 3) := wt_op167 wb14m4_prog_9_method_13_code_c4 9 rfl rfl rfl
theorem wp_tg_fillWord_d127 : decode prog_9_method_13_code 127 = .ok (.iconst 0, 1) := wt_op3 wb14m4_prog_9_method_13_code_c4 12 rfl rfl
theorem wp_tg_fillWord_d128 : decode prog_9_method_13_code 128 = .ok (.istore 4, 2) := wt_op54 wb14m4_prog_9_method_13_code_c4 13 rfl rfl
theorem wp_tg_fillWord_d130 : decode prog_9_method_13_code 130 = .ok (.iload 4, 2) := wt_op21 wb14m4_prog_9_method_13_code_c4 15 rfl rfl
theorem wp_tg_fillWord_d132 : decode prog_9_method_13_code 132 = .ok (.iconst (-1), 1) := wt_op2 wb14m4_prog_9_method_13_code_c4 17 rfl rfl
theorem wp_tg_fillWord_d133 : decode prog_9_method_13_code 133 = .ok (.if_icmp .ne 5, 3) := wt_op160 wb14m4_prog_9_method_13_code_c4 18 rfl rfl rfl
theorem wp_tg_fillWord_d136 : decode prog_9_method_13_code 136 = .ok (.iconst 0, 1) := wt_op3 wb14m4_prog_9_method_13_code_c4 21 rfl rfl
theorem wp_tg_fillWord_d137 : decode prog_9_method_13_code 137 = .ok (.ireturn, 1) := wt_op172 wb14m4_prog_9_method_13_code_c4 22 rfl rfl
theorem wp_tg_fillWord_d138 : decode prog_9_method_13_code 138 = .ok (.aload_n 0, 1) := wt_op42 wb14m4_prog_9_method_13_code_c4 23 rfl rfl
theorem wp_tg_fillWord_d139 : decode prog_9_method_13_code 139 = .ok (.getfield 15, 3) := wt_op180 wb14m4_prog_9_method_13_code_c4 24 rfl rfl rfl
theorem wp_tg_fillWord_d142 : decode prog_9_method_13_code 142 = .ok (.aload_n 0, 1) := wt_op42 wb14m4_prog_9_method_13_code_c4 27 rfl rfl
theorem wp_tg_fillWord_d143 : decode prog_9_method_13_code 143 = .ok (.getfield 34, 3) := wt_op180 wb14m4_prog_9_method_13_code_c5 0 rfl rfl rfl
theorem wp_tg_fillWord_d146 : decode prog_9_method_13_code 146 = .ok (.iload_n 3, 1) := wt_op29 wb14m4_prog_9_method_13_code_c5 3 rfl rfl
theorem wp_tg_fillWord_d147 : decode prog_9_method_13_code 147 = .ok (.invokestatic 57, 3) := wt_op184 wb14m4_prog_9_method_13_code_c5 4 rfl rfl rfl
theorem wp_tg_fillWord_d150 : decode prog_9_method_13_code 150 = .ok (.aload_n 0, 1) := wt_op42 wb14m4_prog_9_method_13_code_c5 7 rfl rfl
theorem wp_tg_fillWord_d151 : decode prog_9_method_13_code 151 = .ok (.getfield 18, 3) := wt_op180 wb14m4_prog_9_method_13_code_c5 8 rfl rfl rfl
theorem wp_tg_fillWord_d154 : decode prog_9_method_13_code 154 = .ok (.aload_n 0, 1) := wt_op42 wb14m4_prog_9_method_13_code_c5 11 rfl rfl
theorem wp_tg_fillWord_d155 : decode prog_9_method_13_code 155 = .ok (.getfield 34, 3) := wt_op180 wb14m4_prog_9_method_13_code_c5 12 rfl rfl rfl
theorem wp_tg_fillWord_d158 : decode prog_9_method_13_code 158 = .ok (.iload 4, 2) := wt_op21 wb14m4_prog_9_method_13_code_c5 15 rfl rfl
theorem wp_tg_fillWord_d160 : decode prog_9_method_13_code 160 = .ok (.invokestatic 57, 3) := wt_op184 wb14m4_prog_9_method_13_code_c5 17 rfl rfl rfl
theorem wp_tg_fillWord_d163 : decode prog_9_method_13_code 163 = .ok (.aload_n 0, 1) := wt_op42 wb14m4_prog_9_method_13_code_c5 20 rfl rfl
theorem wp_tg_fillWord_d164 : decode prog_9_method_13_code 164 = .ok (.getfield 21, 3) := wt_op180 wb14m4_prog_9_method_13_code_c5 21 rfl rfl rfl
theorem wp_tg_fillWord_d167 : decode prog_9_method_13_code 167 = .ok (.aload_n 0, 1) := wt_op42 wb14m4_prog_9_method_13_code_c5 24 rfl rfl
theorem wp_tg_fillWord_d168 : decode prog_9_method_13_code 168 = .ok (.getfield 34, 3) := wt_op180 wb14m4_prog_9_method_13_code_c5 25 rfl rfl rfl
theorem wp_tg_fillWord_d171 : decode prog_9_method_13_code 171 = .ok (.aload_n 0, 1) := wt_op42 wb14m4_prog_9_method_13_code_c6 0 rfl rfl
theorem wp_tg_fillWord_d172 : decode prog_9_method_13_code 172 = .ok (.getfield 38, 3) := wt_op180 wb14m4_prog_9_method_13_code_c6 1 rfl rfl rfl
theorem wp_tg_fillWord_d175 : decode prog_9_method_13_code 175 = .ok (.invokestatic 57, 3) := wt_op184 wb14m4_prog_9_method_13_code_c6 4 rfl rfl rfl
theorem wp_tg_fillWord_d178 : decode prog_9_method_13_code 178 = .ok (.aload_n 0, 1) := wt_op42 wb14m4_prog_9_method_13_code_c6 7 rfl rfl
theorem wp_tg_fillWord_d179 : decode prog_9_method_13_code 179 = .ok (.dup, 1) := wt_op89 wb14m4_prog_9_method_13_code_c6 8 rfl rfl
theorem wp_tg_fillWord_d180 : decode prog_9_method_13_code 180 = .ok (.getfield 34, 3) := wt_op180 wb14m4_prog_9_method_13_code_c6 9 rfl rfl rfl
theorem wp_tg_fillWord_d183 : decode prog_9_method_13_code 183 = .ok (.iconst 1, 1) := wt_op4 wb14m4_prog_9_method_13_code_c6 12 rfl rfl
theorem wp_tg_fillWord_d184 : decode prog_9_method_13_code 184 = .ok (.iadd, 1) := wt_op96 wb14m4_prog_9_method_13_code_c6 13 rfl rfl
theorem wp_tg_fillWord_d185 : decode prog_9_method_13_code 185 = .ok (.putfield 34, 3) := wt_op181 wb14m4_prog_9_method_13_code_c6 14 rfl rfl rfl
theorem wp_tg_fillWord_d188 : decode prog_9_method_13_code 188 = .ok (.iconst 1, 1) := wt_op4 wb14m4_prog_9_method_13_code_c6 17 rfl rfl
theorem wp_tg_fillWord_d189 : decode prog_9_method_13_code 189 = .ok (.ireturn, 1) := wt_op172 wb14m4_prog_9_method_13_code_c6 18 rfl rfl
noncomputable def wp_tg_fillWord_B33 (n : Nat) (t0 : Nat) (σ : wt_St) : Option (Int32 × wt_St) :=
  (wp_tp_fail n (2 : Int32) σ).bind fun q5 =>
  some (q5.1, q5.2)
set_option maxRecDepth 100000 in
set_option maxHeartbeats 4000000 in
theorem wp_tg_fillWord_B33_ok  {t0 : Nat} {X : wt_X} {n : Nat} {res : Int32 × wt_St} (hE : wt_Ok X prog_9_method_13_code 5 "WornType$Tongue" 4 0) (hR : wt_Rt X (some .boolean) (some res.1) res.2) (hD : ∀ i, i < 108 → wt_dom (wt_xw X) i) (hI_t0 : wt_isTongue t0) (hT_t0 : ∀ j, j < 7 → wt_dom (wt_xw X) (t0 + j)) {σ : wt_St} (h : wp_tg_fillWord_B33 n t0 σ = some res) : wt_V X 0 σ 33 [some (.ref (wt_ad (wt_xw X) t0)), some (.ref (wt_ad (wt_xw X) 1)), none, none, none] [] := by
  unfold wp_tg_fillWord_B33 at h
  refine wt_aload_n hE wp_tg_fillWord_d33 rfl ?_
  refine wt_iconst hE (2 : Int32) wp_tg_fillWord_d34 wt_ci_2 ?_
  obtain ⟨q5, hq5, h⟩ := wt_bi h
  refine wt_callVi hE [.int (2 : Int32)] wt_lm_tg_99 wt_ya_tp_fail (wp_tp_fail_ok hD hq5) (by omega) (hD 1 (Nat.le_of_ble_eq_true rfl)) wt_L1 rfl rfl rfl (Nat.le_of_ble_eq_true rfl) (Nat.zero_le _) wp_tg_fillWord_d35 (fun hbq5 => ?_)
  cases h
  exact wt_zret hE (hbq5 rfl _ rfl) hR wp_tg_fillWord_d38
noncomputable def wp_tg_fillWord_B62 (n : Nat) (t0 : Nat) (σ : wt_St) : Option (Int32 × wt_St) :=
  (wp_tp_fail n (3 : Int32) σ).bind fun q9 =>
  some (q9.1, q9.2)
set_option maxRecDepth 100000 in
set_option maxHeartbeats 4000000 in
theorem wp_tg_fillWord_B62_ok  {t0 : Nat} {X : wt_X} {n : Nat} {res : Int32 × wt_St} (hE : wt_Ok X prog_9_method_13_code 5 "WornType$Tongue" 4 0) (hR : wt_Rt X (some .boolean) (some res.1) res.2) (hD : ∀ i, i < 108 → wt_dom (wt_xw X) i) (hI_t0 : wt_isTongue t0) (hT_t0 : ∀ j, j < 7 → wt_dom (wt_xw X) (t0 + j)) {σ : wt_St} (h : wp_tg_fillWord_B62 n t0 σ = some res) : wt_V X 0 σ 62 [some (.ref (wt_ad (wt_xw X) t0)), some (.ref (wt_ad (wt_xw X) 1)), none, none, none] [] := by
  unfold wp_tg_fillWord_B62 at h
  refine wt_aload_n hE wp_tg_fillWord_d62 rfl ?_
  refine wt_iconst hE (3 : Int32) wp_tg_fillWord_d63 wt_ci_3 ?_
  obtain ⟨q9, hq9, h⟩ := wt_bi h
  refine wt_callVi hE [.int (3 : Int32)] wt_lm_tg_99 wt_ya_tp_fail (wp_tp_fail_ok hD hq9) (by omega) (hD 1 (Nat.le_of_ble_eq_true rfl)) wt_L1 rfl rfl rfl (Nat.le_of_ble_eq_true rfl) (Nat.zero_le _) wp_tg_fillWord_d64 (fun hbq9 => ?_)
  cases h
  exact wt_zret hE (hbq9 rfl _ rfl) hR wp_tg_fillWord_d67
noncomputable def wp_tg_fillWord_B128 (n : Nat) (t0 : Nat) (x3 : Int32) (y0 : Int32) (σ : wt_St) : Option (Int32 × wt_St) :=
  if y0 = (-1 : Int32) then
    some ((0 : Int32), σ)
  else
    (wp_ap_put n (t0 + 2) (wt_gf σ t0 6) x3 σ).bind fun q16 =>
    (wp_ap_put n (t0 + 3) (wt_gf q16 t0 6) y0 q16).bind fun q17 =>
    (wp_ap_put n (t0 + 4) (wt_gf q17 t0 6) (wt_gf q17 t0 7) q17).bind fun q18 =>
    some ((1 : Int32), (wt_sf q18 t0 6 ((wt_gf q18 t0 6) + (1 : Int32))))
set_option maxRecDepth 100000 in
set_option maxHeartbeats 4000000 in
theorem wp_tg_fillWord_B128_ok  {t0 : Nat} {x3 : Int32} {X : wt_X} {n : Nat} {res : Int32 × wt_St} (hE : wt_Ok X prog_9_method_13_code 5 "WornType$Tongue" 4 0) (hR : wt_Rt X (some .boolean) (some res.1) res.2) (hD : ∀ i, i < 108 → wt_dom (wt_xw X) i) (hI_t0 : wt_isTongue t0) (hT_t0 : ∀ j, j < 7 → wt_dom (wt_xw X) (t0 + j)) {σ : wt_St} {y0 : Int32} (h : wp_tg_fillWord_B128 n t0 x3 y0 σ = some res) : wt_V X 0 σ 128 [some (.ref (wt_ad (wt_xw X) t0)), some (.ref (wt_ad (wt_xw X) 1)), none, some (.int x3), none] [.int y0] := by
  unfold wp_tg_fillWord_B128 at h
  refine wt_istore hE [some (.ref (wt_ad (wt_xw X) t0)), some (.ref (wt_ad (wt_xw X) 1)), none, some (.int x3), some (.int y0)] wp_tg_fillWord_d128 (Nat.le_of_ble_eq_true rfl) rfl ?_
  refine wt_iload hE wp_tg_fillWord_d130 rfl ?_
  refine wt_iconst hE (-1 : Int32) wp_tg_fillWord_d132 wt_ci_m1 ?_
  refine wt_icmp_ne hE 138 wp_tg_fillWord_d133 rfl (fun c15 => ?_) (fun c15 => ?_)
  · have h := wt_in c15 h
    refine wt_aload_n hE wp_tg_fillWord_d138 rfl ?_
    refine wt_getr hE (r := (t0 + 2)) wt_lf_tg_15 (hT_t0 0 (Nat.le_of_ble_eq_true rfl)) (hI_t0.1) rfl wp_tg_fillWord_d139 ?_
    refine wt_aload_n hE wp_tg_fillWord_d142 rfl ?_
    refine wt_geti hE wt_lf_tg_34 (hT_t0 0 (Nat.le_of_ble_eq_true rfl)) (hI_t0.1) rfl wp_tg_fillWord_d143 ?_
    refine wt_iload_n hE wp_tg_fillWord_d146 rfl ?_
    obtain ⟨q16, hq16, h⟩ := wt_bi h
    refine wt_callSv hE [.ref (wt_ad (wt_xw X) ((t0 + 2))), .int (wt_gf σ t0 6), .int x3] wt_lm_tg_57 wt_ya_ap_put (wp_ap_put_ok (wt_lnE (wt_isTongue_L2 hI_t0)) (hT_t0 2 (Nat.le_of_ble_eq_true rfl)) hq16) (by omega) rfl rfl (Nat.le_of_ble_eq_true rfl) (Nat.zero_le _) wp_tg_fillWord_d147 ?_
    refine wt_aload_n hE wp_tg_fillWord_d150 rfl ?_
    refine wt_getr hE (r := (t0 + 3)) wt_lf_tg_18 (hT_t0 0 (Nat.le_of_ble_eq_true rfl)) (hI_t0.1) rfl wp_tg_fillWord_d151 ?_
    refine wt_aload_n hE wp_tg_fillWord_d154 rfl ?_
    refine wt_geti hE wt_lf_tg_34 (hT_t0 0 (Nat.le_of_ble_eq_true rfl)) (hI_t0.1) rfl wp_tg_fillWord_d155 ?_
    refine wt_iload hE wp_tg_fillWord_d158 rfl ?_
    obtain ⟨q17, hq17, h⟩ := wt_bi h
    refine wt_callSv hE [.ref (wt_ad (wt_xw X) ((t0 + 3))), .int (wt_gf q16 t0 6), .int y0] wt_lm_tg_57 wt_ya_ap_put (wp_ap_put_ok (wt_lnE (wt_isTongue_L3 hI_t0)) (hT_t0 3 (Nat.le_of_ble_eq_true rfl)) hq17) (by omega) rfl rfl (Nat.le_of_ble_eq_true rfl) (Nat.zero_le _) wp_tg_fillWord_d160 ?_
    refine wt_aload_n hE wp_tg_fillWord_d163 rfl ?_
    refine wt_getr hE (r := (t0 + 4)) wt_lf_tg_21 (hT_t0 0 (Nat.le_of_ble_eq_true rfl)) (hI_t0.1) rfl wp_tg_fillWord_d164 ?_
    refine wt_aload_n hE wp_tg_fillWord_d167 rfl ?_
    refine wt_geti hE wt_lf_tg_34 (hT_t0 0 (Nat.le_of_ble_eq_true rfl)) (hI_t0.1) rfl wp_tg_fillWord_d168 ?_
    refine wt_aload_n hE wp_tg_fillWord_d171 rfl ?_
    refine wt_geti hE wt_lf_tg_38 (hT_t0 0 (Nat.le_of_ble_eq_true rfl)) (hI_t0.1) rfl wp_tg_fillWord_d172 ?_
    obtain ⟨q18, hq18, h⟩ := wt_bi h
    refine wt_callSv hE [.ref (wt_ad (wt_xw X) ((t0 + 4))), .int (wt_gf q17 t0 6), .int (wt_gf q17 t0 7)] wt_lm_tg_57 wt_ya_ap_put (wp_ap_put_ok (wt_lnE (wt_isTongue_L4 hI_t0)) (hT_t0 4 (Nat.le_of_ble_eq_true rfl)) hq18) (by omega) rfl rfl (Nat.le_of_ble_eq_true rfl) (Nat.zero_le _) wp_tg_fillWord_d175 ?_
    refine wt_aload_n hE wp_tg_fillWord_d178 rfl ?_
    refine wt_dup hE wp_tg_fillWord_d179 rfl ?_
    refine wt_geti hE wt_lf_tg_34 (hT_t0 0 (Nat.le_of_ble_eq_true rfl)) (hI_t0.1) rfl wp_tg_fillWord_d180 ?_
    refine wt_iconst hE (1 : Int32) wp_tg_fillWord_d183 wt_ci_1 ?_
    refine wt_iadd hE wp_tg_fillWord_d184 ?_
    refine wt_puti hE wt_lf_tg_34 (hT_t0 0 (Nat.le_of_ble_eq_true rfl)) (hI_t0.1) rfl (fun q hq => by cases hq; rfl) wp_tg_fillWord_d185 ?_
    refine wt_iconst hE (1 : Int32) wp_tg_fillWord_d188 wt_ci_1 ?_
    cases h
    exact wt_zret hE (by decide) hR wp_tg_fillWord_d189
  · have h := wt_ip c15 h
    refine wt_iconst hE (0 : Int32) wp_tg_fillWord_d136 wt_ci_0 ?_
    cases h
    exact wt_zret hE (by decide) hR wp_tg_fillWord_d137
noncomputable def wp_tg_fillWord_B71 (n : Nat) (t0 : Nat) (x3 : Int32) (K71 : Int32 × wt_St → Option (Int32 × wt_St)) (s : Int32 × wt_St) : Option (Int32 × wt_St) :=
  if x3 ≤ s.1 then
    (wp_tp_takeSign n (47 : Int32) s.2).bind fun q13 =>
    if q13.1 = 0 then
      wp_tg_fillWord_B128 n t0 x3 (0 : Int32) q13.2
    else
      (wp_tp_takeNumber n (0 : Int32) (3 : Int32) q13.2).bind fun q19 =>
      wp_tg_fillWord_B128 n t0 x3 q19.1 q19.2
  else
    (wp_ap_look n 3 s.1 s.2).bind fun q20 =>
    (wp_ap_put n (t0 + 1) (((wt_gf s.2 t0 6) * (9 : Int32)) + s.1) q20.1 q20.2).bind fun q21 =>
    K71 ((s.1 + (1 : Int32)), q21)
set_option maxRecDepth 100000 in
set_option maxHeartbeats 4000000 in
theorem wp_tg_fillWord_B71_ok  {t0 : Nat} {x3 : Int32} {X : wt_X} {n : Nat} {res : Int32 × wt_St} (hE : wt_Ok X prog_9_method_13_code 5 "WornType$Tongue" 4 0) (hR : wt_Rt X (some .boolean) (some res.1) res.2) (hD : ∀ i, i < 108 → wt_dom (wt_xw X) i) (hI_t0 : wt_isTongue t0) (hT_t0 : ∀ j, j < 7 → wt_dom (wt_xw X) (t0 + j)) {K71 : Int32 × wt_St → Option (Int32 × wt_St)} (hK71 : ∀ s : Int32 × wt_St, K71 s = some res → wt_V X 0 s.2 71 [some (.ref (wt_ad (wt_xw X) t0)), some (.ref (wt_ad (wt_xw X) 1)), none, some (.int x3), some (.int s.1)] []) {s : Int32 × wt_St} (h : wp_tg_fillWord_B71 n t0 x3 K71 s = some res) : wt_V X 0 s.2 71 [some (.ref (wt_ad (wt_xw X) t0)), some (.ref (wt_ad (wt_xw X) 1)), none, some (.int x3), some (.int s.1)] [] := by
  unfold wp_tg_fillWord_B71 at h
  refine wt_iload hE wp_tg_fillWord_d71 rfl ?_
  refine wt_iload_n hE wp_tg_fillWord_d73 rfl ?_
  refine wt_icmp_ge hE 109 wp_tg_fillWord_d74 rfl (fun c12 => ?_) (fun c12 => ?_)
  · have h := wt_ip c12 h
    refine wt_aload_n hE wp_tg_fillWord_d109 rfl ?_
    refine wt_bipush hE (47 : Int32) wp_tg_fillWord_d110 wt_cb_47 ?_
    obtain ⟨q13, hq13, h⟩ := wt_bi h
    refine wt_callVi hE [.int (47 : Int32)] wt_lm_tg_79 wt_ya_tp_takeSign (wp_tp_takeSign_ok hD hq13) (by omega) (hD 1 (Nat.le_of_ble_eq_true rfl)) wt_L1 rfl rfl rfl (Nat.le_of_ble_eq_true rfl) (Nat.zero_le _) wp_tg_fillWord_d112 (fun hbq13 => ?_)
    refine wt_if_eq hE 127 wp_tg_fillWord_d115 rfl (fun c14 => ?_) (fun c14 => ?_)
    · have h := wt_ip c14 h
      refine wt_iconst hE (0 : Int32) wp_tg_fillWord_d127 wt_ci_0 ?_
      refine wt_wk [true, true, true, true, false] rfl ?_
      exact wp_tg_fillWord_B128_ok hE hR hD hI_t0 hT_t0 h
    · have h := wt_in c14 h
      refine wt_aload_n hE wp_tg_fillWord_d118 rfl ?_
      refine wt_iconst hE (0 : Int32) wp_tg_fillWord_d119 wt_ci_0 ?_
      refine wt_iconst hE (3 : Int32) wp_tg_fillWord_d120 wt_ci_3 ?_
      obtain ⟨q19, hq19, h⟩ := wt_bi h
      refine wt_callVi hE [.int (0 : Int32), .int (3 : Int32)] wt_lm_tg_102 wt_ya_tp_takeNumber (wp_tp_takeNumber_ok hD hq19) (by omega) (hD 1 (Nat.le_of_ble_eq_true rfl)) wt_L1 rfl rfl rfl (Nat.le_of_ble_eq_true rfl) (Nat.zero_le _) wp_tg_fillWord_d121 (fun hbq19 => ?_)
      refine wt_goto hE 128 wp_tg_fillWord_d124 rfl ?_
      refine wt_wk [true, true, true, true, false] rfl ?_
      exact wp_tg_fillWord_B128_ok hE hR hD hI_t0 hT_t0 h
  · have h := wt_in c12 h
    refine wt_aload_n hE wp_tg_fillWord_d77 rfl ?_
    refine wt_getr hE (r := (t0 + 1)) wt_lf_tg_9 (hT_t0 0 (Nat.le_of_ble_eq_true rfl)) (hI_t0.1) rfl wp_tg_fillWord_d78 ?_
    refine wt_aload_n hE wp_tg_fillWord_d81 rfl ?_
    refine wt_geti hE wt_lf_tg_34 (hT_t0 0 (Nat.le_of_ble_eq_true rfl)) (hI_t0.1) rfl wp_tg_fillWord_d82 ?_
    refine wt_bipush hE (9 : Int32) wp_tg_fillWord_d85 wt_cb_9 ?_
    refine wt_imul hE wp_tg_fillWord_d87 ?_
    refine wt_iload hE wp_tg_fillWord_d88 rfl ?_
    refine wt_iadd hE wp_tg_fillWord_d90 ?_
    refine wt_aload_n hE wp_tg_fillWord_d91 rfl ?_
    refine wt_getr hE (r := 3) wt_lf_tg_93 (hD 1 (Nat.le_of_ble_eq_true rfl)) wt_L1 rfl wp_tg_fillWord_d92 ?_
    refine wt_iload hE wp_tg_fillWord_d95 rfl ?_
    obtain ⟨q20, hq20, h⟩ := wt_bi h
    refine wt_callSi hE [.ref (wt_ad (wt_xw X) 3), .int s.1] wt_lm_tg_41 wt_ya_ap_look (wp_ap_look_ok (wt_lnE wt_L3) (hD 3 (Nat.le_of_ble_eq_true rfl)) hq20) (by omega) rfl rfl (Nat.le_of_ble_eq_true rfl) (Nat.zero_le _) wp_tg_fillWord_d97 (fun hbq20 => ?_)
    obtain ⟨q21, hq21, h⟩ := wt_bi h
    refine wt_callSv hE [.ref (wt_ad (wt_xw X) ((t0 + 1))), .int (((wt_gf s.2 t0 6) * (9 : Int32)) + s.1), .int q20.1] wt_lm_tg_57 wt_ya_ap_put (wp_ap_put_ok (wt_lnE (wt_isTongue_L1 hI_t0)) (hT_t0 1 (Nat.le_of_ble_eq_true rfl)) hq21) (by omega) rfl rfl (Nat.le_of_ble_eq_true rfl) (Nat.zero_le _) wp_tg_fillWord_d100 ?_
    refine wt_iinc hE (s.1 + (1 : Int32)) [some (.ref (wt_ad (wt_xw X) t0)), some (.ref (wt_ad (wt_xw X) 1)), none, some (.int x3), some (.int (s.1 + (1 : Int32)))] wp_tg_fillWord_d103 (by decide) rfl rfl rfl ?_
    refine wt_goto hE 71 wp_tg_fillWord_d106 rfl ?_
    exact hK71 ((s.1 + (1 : Int32)), q21) h
noncomputable def wp_tg_fillWord (n : Nat) (t0 : Nat) (x2 : Int32) (σ : wt_St) : Option (Int32 × wt_St) :=
  (wp_tp_takeWord n σ).bind fun q1 =>
  if q1.1 = 0 then
    some ((0 : Int32), q1.2)
  else
    (wp_tp_wordLength n q1.2).bind fun q3 =>
    if (9 : Int32) < q3.1 then
      wp_tg_fillWord_B33 n t0 q3.2
    else
      (wp_tg_find n t0 3 q3.1 q3.2).bind fun q6 =>
      if q6.1 = (-1 : Int32) then
        if (20 : Int32) ≤ (wt_gf q6.2 t0 7) then
          wp_tg_fillWord_B62 n t0 q6.2
        else
          if (5 : Int32) ≤ x2 then
            wp_tg_fillWord_B62 n t0 q6.2
          else
            if (wt_gf q6.2 t0 6) < (60 : Int32) then
              wt_it (wp_tg_fillWord_B71 n t0 q3.1) n ((0 : Int32), q6.2)
            else
              wp_tg_fillWord_B62 n t0 q6.2
      else
        wp_tg_fillWord_B33 n t0 q6.2
set_option maxRecDepth 100000 in
set_option maxHeartbeats 4000000 in
theorem wp_tg_fillWord_ok {l : Launch} {w : wt_E} {n : Nat} {t0 : Nat} {x2 : Int32} (hD : ∀ i, i < 108 → wt_dom w i) (hI_t0 : wt_isTongue t0) (hT_t0 : ∀ j, j < 7 → wt_dom w (t0 + j)) {σ : wt_St} {q : Int32 × wt_St} (h : wp_tg_fillWord n t0 x2 σ = some q) : wt_Ctr l w wt_y_tg_fillWord prog_9_method_13_code 5 (some .boolean) 4 [.ref (wt_ad w t0), .ref (wt_ad w 1), .int x2] σ (some q.1) q.2 := by
  refine wt_ctr wt_pl_tg_fillWord rfl (Nat.le_of_ble_eq_true rfl) [some (.ref (wt_ad w t0)), some (.ref (wt_ad w 1)), some (.int x2), none, none] rfl ?_
  intro X hXl hXw hE hR
  subst hXl
  subst hXw
  have hE : wt_Ok X prog_9_method_13_code 5 "WornType$Tongue" 4 0 := hE
  unfold wp_tg_fillWord at h
  refine wt_aload_n hE wp_tg_fillWord_d0 rfl ?_
  obtain ⟨q1, hq1, h⟩ := wt_bi h
  refine wt_callVi hE [] wt_lm_tg_86 wt_ya_tp_takeWord (wp_tp_takeWord_ok hD hq1) (by omega) (hD 1 (Nat.le_of_ble_eq_true rfl)) wt_L1 rfl rfl rfl (Nat.le_of_ble_eq_true rfl) (Nat.zero_le _) wp_tg_fillWord_d1 (fun hbq1 => ?_)
  refine wt_if_ne hE 9 wp_tg_fillWord_d4 rfl (fun c2 => ?_) (fun c2 => ?_)
  · have h := wt_in c2 h
    refine wt_aload_n hE wp_tg_fillWord_d9 rfl ?_
    obtain ⟨q3, hq3, h⟩ := wt_bi h
    refine wt_callVi hE [] wt_lm_tg_89 wt_ya_tp_wordLength (wp_tp_wordLength_ok hD hq3) (by omega) (hD 1 (Nat.le_of_ble_eq_true rfl)) wt_L1 rfl rfl rfl (Nat.le_of_ble_eq_true rfl) (Nat.zero_le _) wp_tg_fillWord_d10 (fun hbq3 => ?_)
    refine wt_istore_n hE [some (.ref (wt_ad (wt_xw X) t0)), some (.ref (wt_ad (wt_xw X) 1)), some (.int x2), some (.int q3.1), none] wp_tg_fillWord_d13 (by decide) rfl ?_
    refine wt_iload_n hE wp_tg_fillWord_d14 rfl ?_
    refine wt_bipush hE (9 : Int32) wp_tg_fillWord_d15 wt_cb_9 ?_
    refine wt_icmp_gt hE 33 wp_tg_fillWord_d17 rfl (fun c4 => ?_) (fun c4 => ?_)
    · have h := wt_ip c4 h
      refine wt_wk [true, true, false, false, true] rfl ?_
      exact wp_tg_fillWord_B33_ok hE hR hD hI_t0 hT_t0 h
    · have h := wt_in c4 h
      refine wt_aload_n hE wp_tg_fillWord_d20 rfl ?_
      refine wt_aload_n hE wp_tg_fillWord_d21 rfl ?_
      refine wt_getr hE (r := 3) wt_lf_tg_93 (hD 1 (Nat.le_of_ble_eq_true rfl)) wt_L1 rfl wp_tg_fillWord_d22 ?_
      refine wt_iload_n hE wp_tg_fillWord_d25 rfl ?_
      obtain ⟨q6, hq6, h⟩ := wt_bi h
      refine wt_callVi hE [.ref (wt_ad (wt_xw X) 3), .int q3.1] wt_lm_tg_96 wt_ya_tg_find (wp_tg_find_ok hI_t0 hT_t0 (wt_lnE wt_L3) (hD 3 (Nat.le_of_ble_eq_true rfl)) hq6) (by omega) (hT_t0 0 (Nat.le_of_ble_eq_true rfl)) (hI_t0.1) rfl rfl rfl (Nat.le_of_ble_eq_true rfl) (Nat.zero_le _) wp_tg_fillWord_d26 (fun hbq6 => ?_)
      refine wt_iconst hE (-1 : Int32) wp_tg_fillWord_d29 wt_ci_m1 ?_
      refine wt_icmp_eq hE 39 wp_tg_fillWord_d30 rfl (fun c7 => ?_) (fun c7 => ?_)
      · have h := wt_ip c7 h
        refine wt_aload_n hE wp_tg_fillWord_d39 rfl ?_
        refine wt_geti hE wt_lf_tg_38 (hT_t0 0 (Nat.le_of_ble_eq_true rfl)) (hI_t0.1) rfl wp_tg_fillWord_d40 ?_
        refine wt_bipush hE (20 : Int32) wp_tg_fillWord_d43 wt_cb_20 ?_
        refine wt_icmp_ge hE 62 wp_tg_fillWord_d45 rfl (fun c8 => ?_) (fun c8 => ?_)
        · have h := wt_ip c8 h
          refine wt_wk [true, true, false, false, true] rfl ?_
          exact wp_tg_fillWord_B62_ok hE hR hD hI_t0 hT_t0 h
        · have h := wt_in c8 h
          refine wt_iload_n hE wp_tg_fillWord_d48 rfl ?_
          refine wt_iconst hE (5 : Int32) wp_tg_fillWord_d49 wt_ci_5 ?_
          refine wt_icmp_ge hE 62 wp_tg_fillWord_d50 rfl (fun c10 => ?_) (fun c10 => ?_)
          · have h := wt_ip c10 h
            refine wt_wk [true, true, false, false, true] rfl ?_
            exact wp_tg_fillWord_B62_ok hE hR hD hI_t0 hT_t0 h
          · have h := wt_in c10 h
            refine wt_aload_n hE wp_tg_fillWord_d53 rfl ?_
            refine wt_geti hE wt_lf_tg_34 (hT_t0 0 (Nat.le_of_ble_eq_true rfl)) (hI_t0.1) rfl wp_tg_fillWord_d54 ?_
            refine wt_bipush hE (60 : Int32) wp_tg_fillWord_d57 wt_cb_60 ?_
            refine wt_icmp_lt hE 68 wp_tg_fillWord_d59 rfl (fun c11 => ?_) (fun c11 => ?_)
            · have h := wt_ip c11 h
              refine wt_iconst hE (0 : Int32) wp_tg_fillWord_d68 wt_ci_0 ?_
              refine wt_istore hE [some (.ref (wt_ad (wt_xw X) t0)), some (.ref (wt_ad (wt_xw X) 1)), some (.int x2), some (.int q3.1), some (.int (0 : Int32))] wp_tg_fillWord_d69 (Nat.le_of_ble_eq_true rfl) rfl ?_
              refine wt_wk [true, true, false, true, true] rfl ?_
              exact wt_it_ind (fun z => wt_V X 0 z.2 71 [some (.ref (wt_ad (wt_xw X) t0)), some (.ref (wt_ad (wt_xw X) 1)), none, some (.int q3.1), some (.int z.1)] []) (fun K hK z h => wp_tg_fillWord_B71_ok hE hR hD hI_t0 hT_t0 hK h) n ((0 : Int32), q6.2) h
            · have h := wt_in c11 h
              refine wt_wk [true, true, false, false, true] rfl ?_
              exact wp_tg_fillWord_B62_ok hE hR hD hI_t0 hT_t0 h
      · have h := wt_in c7 h
        refine wt_wk [true, true, false, false, true] rfl ?_
        exact wp_tg_fillWord_B33_ok hE hR hD hI_t0 hT_t0 h
  · have h := wt_ip c2 h
    refine wt_iconst hE (0 : Int32) wp_tg_fillWord_d7 wt_ci_0 ?_
    cases h
    exact wt_zret hE (by decide) hR wp_tg_fillWord_d8
def wb14m4_prog_9_method_12_code_r3 : List (List Nat) := [172] :: []
def wb14m4_prog_9_method_12_code_r2 : List (List Nat) := [100, 184, 0, 57, 42, 89, 180, 0, 38, 4, 96, 181, 0, 38, 43, 16, 59, 182, 0, 83, 172, 132, 3, 1, 167, 255, 182, 3] :: wb14m4_prog_9_method_12_code_r3
def wb14m4_prog_9_method_12_code_r1 : List (List Nat) := [154, 0, 49, 42, 180, 0, 24, 42, 180, 0, 38, 28, 184, 0, 57, 42, 180, 0, 27, 42, 180, 0, 38, 42, 180, 0, 34, 28] :: wb14m4_prog_9_method_12_code_r2
def wb14m4_prog_9_method_12_code_r0 : List (List Nat) := [42, 180, 0, 34, 61, 3, 62, 29, 8, 163, 0, 75, 42, 43, 29, 182, 0, 75, 154, 0, 5, 3, 172, 43, 16, 44, 182, 0, 79] :: wb14m4_prog_9_method_12_code_r1
set_option maxRecDepth 100000 in
theorem wb14m4_prog_9_method_12_code_c0 : wt_cs prog_9_method_12_code 0 wb14m4_prog_9_method_12_code_r0 := wt_cs_of (by decide +kernel)
theorem wb14m4_prog_9_method_12_code_c1 : wt_cs prog_9_method_12_code 29 wb14m4_prog_9_method_12_code_r1 := wt_cs_tl (m := 29) wb14m4_prog_9_method_12_code_c0 rfl rfl
theorem wb14m4_prog_9_method_12_code_c2 : wt_cs prog_9_method_12_code 57 wb14m4_prog_9_method_12_code_r2 := wt_cs_tl (m := 28) wb14m4_prog_9_method_12_code_c1 rfl rfl
theorem wb14m4_prog_9_method_12_code_c3 : wt_cs prog_9_method_12_code 85 wb14m4_prog_9_method_12_code_r3 := wt_cs_tl (m := 28) wb14m4_prog_9_method_12_code_c2 rfl rfl
theorem wp_tg_fillGroup_d0 : decode prog_9_method_12_code 0 = .ok (.aload_n 0, 1) := wt_op42 wb14m4_prog_9_method_12_code_c0 0 rfl rfl
theorem wp_tg_fillGroup_d1 : decode prog_9_method_12_code 1 = .ok (.getfield 34, 3) := wt_op180 wb14m4_prog_9_method_12_code_c0 1 rfl rfl rfl
theorem wp_tg_fillGroup_d4 : decode prog_9_method_12_code 4 = .ok (.istore_n 2, 1) := wt_op61 wb14m4_prog_9_method_12_code_c0 4 rfl rfl
theorem wp_tg_fillGroup_d5 : decode prog_9_method_12_code 5 = .ok (.iconst 0, 1) := wt_op3 wb14m4_prog_9_method_12_code_c0 5 rfl rfl
theorem wp_tg_fillGroup_d6 : decode prog_9_method_12_code 6 = .ok (.istore_n 3, 1) := wt_op62 wb14m4_prog_9_method_12_code_c0 6 rfl rfl
theorem wp_tg_fillGroup_d7 : decode prog_9_method_12_code 7 = .ok (.iload_n 3, 1) := wt_op29 wb14m4_prog_9_method_12_code_c0 7 rfl rfl
theorem wp_tg_fillGroup_d8 : decode prog_9_method_12_code 8 = .ok (.iconst 5, 1) := wt_op8 wb14m4_prog_9_method_12_code_c0 8 rfl rfl
theorem wp_tg_fillGroup_d9 : decode prog_9_method_12_code 9 = .ok (.if_icmp .gt 75, 3) := wt_op163 wb14m4_prog_9_method_12_code_c0 9 rfl rfl rfl
theorem wp_tg_fillGroup_d12 : decode prog_9_method_12_code 12 = .ok (.aload_n 0, 1) := wt_op42 wb14m4_prog_9_method_12_code_c0 12 rfl rfl
theorem wp_tg_fillGroup_d13 : decode prog_9_method_12_code 13 = .ok (.aload_n 1, 1) := wt_op43 wb14m4_prog_9_method_12_code_c0 13 rfl rfl
theorem wp_tg_fillGroup_d14 : decode prog_9_method_12_code 14 = .ok (.iload_n 3, 1) := wt_op29 wb14m4_prog_9_method_12_code_c0 14 rfl rfl
theorem wp_tg_fillGroup_d15 : decode prog_9_method_12_code 15 = .ok (.invokevirtual 75, 3) := wt_op182 wb14m4_prog_9_method_12_code_c0 15 rfl rfl rfl
theorem wp_tg_fillGroup_d18 : decode prog_9_method_12_code 18 = .ok (.ifCond .ne 5, 3) := wt_op154 wb14m4_prog_9_method_12_code_c0 18 rfl rfl rfl
theorem wp_tg_fillGroup_d21 : decode prog_9_method_12_code 21 = .ok (.iconst 0, 1) := wt_op3 wb14m4_prog_9_method_12_code_c0 21 rfl rfl
theorem wp_tg_fillGroup_d22 : decode prog_9_method_12_code 22 = .ok (.ireturn, 1) := wt_op172 wb14m4_prog_9_method_12_code_c0 22 rfl rfl
theorem wp_tg_fillGroup_d23 : decode prog_9_method_12_code 23 = .ok (.aload_n 1, 1) := wt_op43 wb14m4_prog_9_method_12_code_c0 23 rfl rfl
theorem wp_tg_fillGroup_d24 : decode prog_9_method_12_code 24 = .ok (.bipush 44, 2) := wt_op16 wb14m4_prog_9_method_12_code_c0 24 rfl rfl rfl
theorem wp_tg_fillGroup_d26 : decode prog_9_method_12_code 26 = .ok (.invokevirtual 79, 3) := wt_op182 wb14m4_prog_9_method_12_code_c0 26 rfl rfl rfl
theorem wp_tg_fillGroup_d29 : decode prog_9_method_12_code 29 = .ok (.ifCond .ne 49, 3) := wt_op154 wb14m4_prog_9_method_12_code_c1 0 rfl rfl rfl
theorem wp_tg_fillGroup_d32 : decode prog_9_method_12_code 32 = .ok (.aload_n 0, 1) := wt_op42 wb14m4_prog_9_method_12_code_c1 3 rfl rfl
theorem wp_tg_fillGroup_d33 : decode prog_9_method_12_code 33 = .ok (.getfield 24, 3) := wt_op180 wb14m4_prog_9_method_12_code_c1 4 rfl rfl rfl
theorem wp_tg_fillGroup_d36 : decode prog_9_method_12_code 36 = .ok (.aload_n 0, 1) := wt_op42 wb14m4_prog_9_method_12_code_c1 7 rfl rfl
theorem wp_tg_fillGroup_d37 : decode prog_9_method_12_code 37 = .ok (.getfield 38, 3) := wt_op180 wb14m4_prog_9_method_12_code_c1 8 rfl rfl rfl
theorem wp_tg_fillGroup_d40 : decode prog_9_method_12_code 40 = .ok (.iload_n 2, 1) := wt_op28 wb14m4_prog_9_method_12_code_c1 11 rfl rfl
theorem wp_tg_fillGroup_d41 : decode prog_9_method_12_code 41 = .ok (.invokestatic 57, 3) := wt_op184 wb14m4_prog_9_method_12_code_c1 12 rfl rfl rfl
theorem wp_tg_fillGroup_d44 : decode prog_9_method_12_code 44 = .ok (.aload_n 0, 1) := wt_op42 wb14m4_prog_9_method_12_code_c1 15 rfl rfl
theorem wp_tg_fillGroup_d45 : decode prog_9_method_12_code 45 = .ok (.getfield 27, 3) := wt_op180 wb14m4_prog_9_method_12_code_c1 16 rfl rfl rfl
theorem wp_tg_fillGroup_d48 : decode prog_9_method_12_code 48 = .ok (.aload_n 0, 1) := wt_op42 wb14m4_prog_9_method_12_code_c1 19 rfl rfl
theorem wp_tg_fillGroup_d49 : decode prog_9_method_12_code 49 = .ok (.getfield 38, 3) := wt_op180 wb14m4_prog_9_method_12_code_c1 20 rfl rfl rfl
theorem wp_tg_fillGroup_d52 : decode prog_9_method_12_code 52 = .ok (.aload_n 0, 1) := wt_op42 wb14m4_prog_9_method_12_code_c1 23 rfl rfl
theorem wp_tg_fillGroup_d53 : decode prog_9_method_12_code 53 = .ok (.getfield 34, 3) := wt_op180 wb14m4_prog_9_method_12_code_c1 24 rfl rfl rfl
theorem wp_tg_fillGroup_d56 : decode prog_9_method_12_code 56 = .ok (.iload_n 2, 1) := wt_op28 wb14m4_prog_9_method_12_code_c1 27 rfl rfl
theorem wp_tg_fillGroup_d57 : decode prog_9_method_12_code 57 = .ok (.isub, 1) := wt_op100 wb14m4_prog_9_method_12_code_c2 0 rfl rfl
theorem wp_tg_fillGroup_d58 : decode prog_9_method_12_code 58 = .ok (.invokestatic 57, 3) := wt_op184 wb14m4_prog_9_method_12_code_c2 1 rfl rfl rfl
theorem wp_tg_fillGroup_d61 : decode prog_9_method_12_code 61 = .ok (.aload_n 0, 1) := wt_op42 wb14m4_prog_9_method_12_code_c2 4 rfl rfl
theorem wp_tg_fillGroup_d62 : decode prog_9_method_12_code 62 = .ok (.dup, 1) := wt_op89 wb14m4_prog_9_method_12_code_c2 5 rfl rfl
theorem wp_tg_fillGroup_d63 : decode prog_9_method_12_code 63 = .ok (.getfield 38, 3) := wt_op180 wb14m4_prog_9_method_12_code_c2 6 rfl rfl rfl
theorem wp_tg_fillGroup_d66 : decode prog_9_method_12_code 66 = .ok (.iconst 1, 1) := wt_op4 wb14m4_prog_9_method_12_code_c2 9 rfl rfl
theorem wp_tg_fillGroup_d67 : decode prog_9_method_12_code 67 = .ok (.iadd, 1) := wt_op96 wb14m4_prog_9_method_12_code_c2 10 rfl rfl
theorem wp_tg_fillGroup_d68 : decode prog_9_method_12_code 68 = .ok (.putfield 38, 3) := wt_op181 wb14m4_prog_9_method_12_code_c2 11 rfl rfl rfl
theorem wp_tg_fillGroup_d71 : decode prog_9_method_12_code 71 = .ok (.aload_n 1, 1) := wt_op43 wb14m4_prog_9_method_12_code_c2 14 rfl rfl
theorem wp_tg_fillGroup_d72 : decode prog_9_method_12_code 72 = .ok (.bipush 59, 2) := wt_op16 wb14m4_prog_9_method_12_code_c2 15 rfl rfl rfl
theorem wp_tg_fillGroup_d74 : decode prog_9_method_12_code 74 = .ok (.invokevirtual 83, 3) := wt_op182 wb14m4_prog_9_method_12_code_c2 17 rfl rfl rfl
theorem wp_tg_fillGroup_d77 : decode prog_9_method_12_code 77 = .ok (.ireturn, 1) := wt_op172 wb14m4_prog_9_method_12_code_c2 20 rfl rfl
theorem wp_tg_fillGroup_d78 : decode prog_9_method_12_code 78 = .ok (.iinc 3 1, 3) := wt_op132 wb14m4_prog_9_method_12_code_c2 21 rfl rfl rfl
theorem wp_tg_fillGroup_d81 : decode prog_9_method_12_code 81 = .ok (.goto (-74), 3) := wt_op167 wb14m4_prog_9_method_12_code_c2 24 rfl rfl rfl
theorem wp_tg_fillGroup_d84 : decode prog_9_method_12_code 84 = .ok (.iconst 0, 1) := wt_op3 wb14m4_prog_9_method_12_code_c2 27 rfl rfl
theorem wp_tg_fillGroup_d85 : decode prog_9_method_12_code 85 = .ok (.ireturn, 1) := wt_op172 wb14m4_prog_9_method_12_code_c3 0 rfl rfl
noncomputable def wp_tg_fillGroup_B7 (n : Nat) (t0 : Nat) (x2 : Int32) (K7 : Int32 × wt_St → Option (Int32 × wt_St)) (s : Int32 × wt_St) : Option (Int32 × wt_St) :=
  if (5 : Int32) < s.1 then
    some ((0 : Int32), s.2)
  else
    (wp_tg_fillWord n t0 s.1 s.2).bind fun q2 =>
    if q2.1 = 0 then
      some ((0 : Int32), q2.2)
    else
      (wp_tp_takeSign n (44 : Int32) q2.2).bind fun q4 =>
      if q4.1 = 0 then
        (wp_ap_put n (t0 + 5) (wt_gf q4.2 t0 7) x2 q4.2).bind fun q6 =>
        (wp_ap_put n (t0 + 6) (wt_gf q6 t0 7) ((wt_gf q6 t0 6) - x2) q6).bind fun q7 =>
        (wp_tp_needSign n (59 : Int32) (wt_sf q7 t0 7 ((wt_gf q7 t0 7) + (1 : Int32)))).bind fun q8 =>
        some (q8.1, q8.2)
      else
        K7 ((s.1 + (1 : Int32)), q4.2)
set_option maxRecDepth 100000 in
set_option maxHeartbeats 4000000 in
theorem wp_tg_fillGroup_B7_ok  {t0 : Nat} {x2 : Int32} {X : wt_X} {n : Nat} {res : Int32 × wt_St} (hE : wt_Ok X prog_9_method_12_code 4 "WornType$Tongue" 5 0) (hR : wt_Rt X (some .boolean) (some res.1) res.2) (hD : ∀ i, i < 108 → wt_dom (wt_xw X) i) (hI_t0 : wt_isTongue t0) (hT_t0 : ∀ j, j < 7 → wt_dom (wt_xw X) (t0 + j)) {K7 : Int32 × wt_St → Option (Int32 × wt_St)} (hK7 : ∀ s : Int32 × wt_St, K7 s = some res → wt_V X 0 s.2 7 [some (.ref (wt_ad (wt_xw X) t0)), some (.ref (wt_ad (wt_xw X) 1)), some (.int x2), some (.int s.1)] []) {s : Int32 × wt_St} (h : wp_tg_fillGroup_B7 n t0 x2 K7 s = some res) : wt_V X 0 s.2 7 [some (.ref (wt_ad (wt_xw X) t0)), some (.ref (wt_ad (wt_xw X) 1)), some (.int x2), some (.int s.1)] [] := by
  unfold wp_tg_fillGroup_B7 at h
  refine wt_iload_n hE wp_tg_fillGroup_d7 rfl ?_
  refine wt_iconst hE (5 : Int32) wp_tg_fillGroup_d8 wt_ci_5 ?_
  refine wt_icmp_gt hE 84 wp_tg_fillGroup_d9 rfl (fun c1 => ?_) (fun c1 => ?_)
  · have h := wt_ip c1 h
    refine wt_iconst hE (0 : Int32) wp_tg_fillGroup_d84 wt_ci_0 ?_
    cases h
    exact wt_zret hE (by decide) hR wp_tg_fillGroup_d85
  · have h := wt_in c1 h
    refine wt_aload_n hE wp_tg_fillGroup_d12 rfl ?_
    refine wt_aload_n hE wp_tg_fillGroup_d13 rfl ?_
    refine wt_iload_n hE wp_tg_fillGroup_d14 rfl ?_
    obtain ⟨q2, hq2, h⟩ := wt_bi h
    refine wt_callVi hE [.ref (wt_ad (wt_xw X) 1), .int s.1] wt_lm_tg_75 wt_ya_tg_fillWord (wp_tg_fillWord_ok hD hI_t0 hT_t0 hq2) (by omega) (hT_t0 0 (Nat.le_of_ble_eq_true rfl)) (hI_t0.1) rfl rfl rfl (Nat.le_of_ble_eq_true rfl) (Nat.zero_le _) wp_tg_fillGroup_d15 (fun hbq2 => ?_)
    refine wt_if_ne hE 23 wp_tg_fillGroup_d18 rfl (fun c3 => ?_) (fun c3 => ?_)
    · have h := wt_in c3 h
      refine wt_aload_n hE wp_tg_fillGroup_d23 rfl ?_
      refine wt_bipush hE (44 : Int32) wp_tg_fillGroup_d24 wt_cb_44 ?_
      obtain ⟨q4, hq4, h⟩ := wt_bi h
      refine wt_callVi hE [.int (44 : Int32)] wt_lm_tg_79 wt_ya_tp_takeSign (wp_tp_takeSign_ok hD hq4) (by omega) (hD 1 (Nat.le_of_ble_eq_true rfl)) wt_L1 rfl rfl rfl (Nat.le_of_ble_eq_true rfl) (Nat.zero_le _) wp_tg_fillGroup_d26 (fun hbq4 => ?_)
      refine wt_if_ne hE 78 wp_tg_fillGroup_d29 rfl (fun c5 => ?_) (fun c5 => ?_)
      · have h := wt_in c5 h
        refine wt_iinc hE (s.1 + (1 : Int32)) [some (.ref (wt_ad (wt_xw X) t0)), some (.ref (wt_ad (wt_xw X) 1)), some (.int x2), some (.int (s.1 + (1 : Int32)))] wp_tg_fillGroup_d78 (by decide) rfl rfl rfl ?_
        refine wt_goto hE 7 wp_tg_fillGroup_d81 rfl ?_
        exact hK7 ((s.1 + (1 : Int32)), q4.2) h
      · have h := wt_ip c5 h
        refine wt_aload_n hE wp_tg_fillGroup_d32 rfl ?_
        refine wt_getr hE (r := (t0 + 5)) wt_lf_tg_24 (hT_t0 0 (Nat.le_of_ble_eq_true rfl)) (hI_t0.1) rfl wp_tg_fillGroup_d33 ?_
        refine wt_aload_n hE wp_tg_fillGroup_d36 rfl ?_
        refine wt_geti hE wt_lf_tg_38 (hT_t0 0 (Nat.le_of_ble_eq_true rfl)) (hI_t0.1) rfl wp_tg_fillGroup_d37 ?_
        refine wt_iload_n hE wp_tg_fillGroup_d40 rfl ?_
        obtain ⟨q6, hq6, h⟩ := wt_bi h
        refine wt_callSv hE [.ref (wt_ad (wt_xw X) ((t0 + 5))), .int (wt_gf q4.2 t0 7), .int x2] wt_lm_tg_57 wt_ya_ap_put (wp_ap_put_ok (wt_lnE (wt_isTongue_L5 hI_t0)) (hT_t0 5 (Nat.le_of_ble_eq_true rfl)) hq6) (by omega) rfl rfl (Nat.le_of_ble_eq_true rfl) (Nat.zero_le _) wp_tg_fillGroup_d41 ?_
        refine wt_aload_n hE wp_tg_fillGroup_d44 rfl ?_
        refine wt_getr hE (r := (t0 + 6)) wt_lf_tg_27 (hT_t0 0 (Nat.le_of_ble_eq_true rfl)) (hI_t0.1) rfl wp_tg_fillGroup_d45 ?_
        refine wt_aload_n hE wp_tg_fillGroup_d48 rfl ?_
        refine wt_geti hE wt_lf_tg_38 (hT_t0 0 (Nat.le_of_ble_eq_true rfl)) (hI_t0.1) rfl wp_tg_fillGroup_d49 ?_
        refine wt_aload_n hE wp_tg_fillGroup_d52 rfl ?_
        refine wt_geti hE wt_lf_tg_34 (hT_t0 0 (Nat.le_of_ble_eq_true rfl)) (hI_t0.1) rfl wp_tg_fillGroup_d53 ?_
        refine wt_iload_n hE wp_tg_fillGroup_d56 rfl ?_
        refine wt_isub hE wp_tg_fillGroup_d57 ?_
        obtain ⟨q7, hq7, h⟩ := wt_bi h
        refine wt_callSv hE [.ref (wt_ad (wt_xw X) ((t0 + 6))), .int (wt_gf q6 t0 7), .int ((wt_gf q6 t0 6) - x2)] wt_lm_tg_57 wt_ya_ap_put (wp_ap_put_ok (wt_lnE (wt_isTongue_L6 hI_t0)) (hT_t0 6 (Nat.le_of_ble_eq_true rfl)) hq7) (by omega) rfl rfl (Nat.le_of_ble_eq_true rfl) (Nat.zero_le _) wp_tg_fillGroup_d58 ?_
        refine wt_aload_n hE wp_tg_fillGroup_d61 rfl ?_
        refine wt_dup hE wp_tg_fillGroup_d62 rfl ?_
        refine wt_geti hE wt_lf_tg_38 (hT_t0 0 (Nat.le_of_ble_eq_true rfl)) (hI_t0.1) rfl wp_tg_fillGroup_d63 ?_
        refine wt_iconst hE (1 : Int32) wp_tg_fillGroup_d66 wt_ci_1 ?_
        refine wt_iadd hE wp_tg_fillGroup_d67 ?_
        refine wt_puti hE wt_lf_tg_38 (hT_t0 0 (Nat.le_of_ble_eq_true rfl)) (hI_t0.1) rfl (fun q hq => by cases hq; rfl) wp_tg_fillGroup_d68 ?_
        refine wt_aload_n hE wp_tg_fillGroup_d71 rfl ?_
        refine wt_bipush hE (59 : Int32) wp_tg_fillGroup_d72 wt_cb_59 ?_
        obtain ⟨q8, hq8, h⟩ := wt_bi h
        refine wt_callVi hE [.int (59 : Int32)] wt_lm_tg_83 wt_ya_tp_needSign (wp_tp_needSign_ok hD hq8) (by omega) (hD 1 (Nat.le_of_ble_eq_true rfl)) wt_L1 rfl rfl rfl (Nat.le_of_ble_eq_true rfl) (Nat.zero_le _) wp_tg_fillGroup_d74 (fun hbq8 => ?_)
        cases h
        exact wt_zret hE (hbq8 rfl _ rfl) hR wp_tg_fillGroup_d77
    · have h := wt_ip c3 h
      refine wt_iconst hE (0 : Int32) wp_tg_fillGroup_d21 wt_ci_0 ?_
      cases h
      exact wt_zret hE (by decide) hR wp_tg_fillGroup_d22
noncomputable def wp_tg_fillGroup (n : Nat) (t0 : Nat) (σ : wt_St) : Option (Int32 × wt_St) :=
  wt_it (wp_tg_fillGroup_B7 n t0 (wt_gf σ t0 6)) n ((0 : Int32), σ)
set_option maxRecDepth 100000 in
set_option maxHeartbeats 4000000 in
theorem wp_tg_fillGroup_ok {l : Launch} {w : wt_E} {n : Nat} {t0 : Nat} (hD : ∀ i, i < 108 → wt_dom w i) (hI_t0 : wt_isTongue t0) (hT_t0 : ∀ j, j < 7 → wt_dom w (t0 + j)) {σ : wt_St} {q : Int32 × wt_St} (h : wp_tg_fillGroup n t0 σ = some q) : wt_Ctr l w wt_y_tg_fillGroup prog_9_method_12_code 4 (some .boolean) 5 [.ref (wt_ad w t0), .ref (wt_ad w 1)] σ (some q.1) q.2 := by
  refine wt_ctr wt_pl_tg_fillGroup rfl (Nat.le_of_ble_eq_true rfl) [some (.ref (wt_ad w t0)), some (.ref (wt_ad w 1)), none, none] rfl ?_
  intro X hXl hXw hE hR
  subst hXl
  subst hXw
  have hE : wt_Ok X prog_9_method_12_code 4 "WornType$Tongue" 5 0 := hE
  unfold wp_tg_fillGroup at h
  refine wt_aload_n hE wp_tg_fillGroup_d0 rfl ?_
  refine wt_geti hE wt_lf_tg_34 (hT_t0 0 (Nat.le_of_ble_eq_true rfl)) (hI_t0.1) rfl wp_tg_fillGroup_d1 ?_
  refine wt_istore_n hE [some (.ref (wt_ad (wt_xw X) t0)), some (.ref (wt_ad (wt_xw X) 1)), some (.int (wt_gf σ t0 6)), none] wp_tg_fillGroup_d4 (by decide) rfl ?_
  refine wt_iconst hE (0 : Int32) wp_tg_fillGroup_d5 wt_ci_0 ?_
  refine wt_istore_n hE [some (.ref (wt_ad (wt_xw X) t0)), some (.ref (wt_ad (wt_xw X) 1)), some (.int (wt_gf σ t0 6)), some (.int (0 : Int32))] wp_tg_fillGroup_d6 (by decide) rfl ?_
  exact wt_it_ind (fun z => wt_V X 0 z.2 7 [some (.ref (wt_ad (wt_xw X) t0)), some (.ref (wt_ad (wt_xw X) 1)), some (.int (wt_gf σ t0 6)), some (.int z.1)] []) (fun K hK z h => wp_tg_fillGroup_B7_ok hE hR hD hI_t0 hT_t0 hK h) n ((0 : Int32), σ) h
def wb14m4_prog_9_method_10_code_r1 : List (List Nat) := [43, 182, 0, 71, 154, 0, 5, 3, 172, 132, 2, 1, 167, 255, 228, 3, 172] :: []
def wb14m4_prog_9_method_10_code_r0 : List (List Nat) := [42, 3, 181, 0, 34, 42, 3, 181, 0, 38, 3, 61, 28, 16, 20, 163, 0, 28, 43, 182, 0, 65, 153, 0, 5, 4, 172, 42] :: wb14m4_prog_9_method_10_code_r1
set_option maxRecDepth 100000 in
theorem wb14m4_prog_9_method_10_code_c0 : wt_cs prog_9_method_10_code 0 wb14m4_prog_9_method_10_code_r0 := wt_cs_of (by decide +kernel)
theorem wb14m4_prog_9_method_10_code_c1 : wt_cs prog_9_method_10_code 28 wb14m4_prog_9_method_10_code_r1 := wt_cs_tl (m := 28) wb14m4_prog_9_method_10_code_c0 rfl rfl
theorem wp_tg_fill_d0 : decode prog_9_method_10_code 0 = .ok (.aload_n 0, 1) := wt_op42 wb14m4_prog_9_method_10_code_c0 0 rfl rfl
theorem wp_tg_fill_d1 : decode prog_9_method_10_code 1 = .ok (.iconst 0, 1) := wt_op3 wb14m4_prog_9_method_10_code_c0 1 rfl rfl
theorem wp_tg_fill_d2 : decode prog_9_method_10_code 2 = .ok (.putfield 34, 3) := wt_op181 wb14m4_prog_9_method_10_code_c0 2 rfl rfl rfl
theorem wp_tg_fill_d5 : decode prog_9_method_10_code 5 = .ok (.aload_n 0, 1) := wt_op42 wb14m4_prog_9_method_10_code_c0 5 rfl rfl
theorem wp_tg_fill_d6 : decode prog_9_method_10_code 6 = .ok (.iconst 0, 1) := wt_op3 wb14m4_prog_9_method_10_code_c0 6 rfl rfl
theorem wp_tg_fill_d7 : decode prog_9_method_10_code 7 = .ok (.putfield 38, 3) := wt_op181 wb14m4_prog_9_method_10_code_c0 7 rfl rfl rfl
theorem wp_tg_fill_d10 : decode prog_9_method_10_code 10 = .ok (.iconst 0, 1) := wt_op3 wb14m4_prog_9_method_10_code_c0 10 rfl rfl
theorem wp_tg_fill_d11 : decode prog_9_method_10_code 11 = .ok (.istore_n 2, 1) := wt_op61 wb14m4_prog_9_method_10_code_c0 11 rfl rfl
theorem wp_tg_fill_d12 : decode prog_9_method_10_code 12 = .ok (.iload_n 2, 1) := wt_op28 wb14m4_prog_9_method_10_code_c0 12 rfl rfl
theorem wp_tg_fill_d13 : decode prog_9_method_10_code 13 = .ok (.bipush 20, 2) := wt_op16 wb14m4_prog_9_method_10_code_c0 13 rfl rfl rfl
theorem wp_tg_fill_d15 : decode prog_9_method_10_code 15 = .ok (.if_icmp .gt 28, 3) := wt_op163 wb14m4_prog_9_method_10_code_c0 15 rfl rfl rfl
theorem wp_tg_fill_d18 : decode prog_9_method_10_code 18 = .ok (.aload_n 1, 1) := wt_op43 wb14m4_prog_9_method_10_code_c0 18 rfl rfl
theorem wp_tg_fill_d19 : decode prog_9_method_10_code 19 = .ok (.invokevirtual 65, 3) := wt_op182 wb14m4_prog_9_method_10_code_c0 19 rfl rfl rfl
theorem wp_tg_fill_d22 : decode prog_9_method_10_code 22 = .ok (.ifCond .eq 5, 3) := wt_op153 wb14m4_prog_9_method_10_code_c0 22 rfl rfl rfl
theorem wp_tg_fill_d25 : decode prog_9_method_10_code 25 = .ok (.iconst 1, 1) := wt_op4 wb14m4_prog_9_method_10_code_c0 25 rfl rfl
theorem wp_tg_fill_d26 : decode prog_9_method_10_code 26 = .ok (.ireturn, 1) := wt_op172 wb14m4_prog_9_method_10_code_c0 26 rfl rfl
theorem wp_tg_fill_d27 : decode prog_9_method_10_code 27 = .ok (.aload_n 0, 1) := wt_op42 wb14m4_prog_9_method_10_code_c0 27 rfl rfl
theorem wp_tg_fill_d28 : decode prog_9_method_10_code 28 = .ok (.aload_n 1, 1) := wt_op43 wb14m4_prog_9_method_10_code_c1 0 rfl rfl
theorem wp_tg_fill_d29 : decode prog_9_method_10_code 29 = .ok (.invokevirtual 71, 3) := wt_op182 wb14m4_prog_9_method_10_code_c1 1 rfl rfl rfl
theorem wp_tg_fill_d32 : decode prog_9_method_10_code 32 = .ok (.ifCond .ne 5, 3) := wt_op154 wb14m4_prog_9_method_10_code_c1 4 rfl rfl rfl
theorem wp_tg_fill_d35 : decode prog_9_method_10_code 35 = .ok (.iconst 0, 1) := wt_op3 wb14m4_prog_9_method_10_code_c1 7 rfl rfl
theorem wp_tg_fill_d36 : decode prog_9_method_10_code 36 = .ok (.ireturn, 1) := wt_op172 wb14m4_prog_9_method_10_code_c1 8 rfl rfl
theorem wp_tg_fill_d37 : decode prog_9_method_10_code 37 = .ok (.iinc 2 1, 3) := wt_op132 wb14m4_prog_9_method_10_code_c1 9 rfl rfl rfl
theorem wp_tg_fill_d40 : decode prog_9_method_10_code 40 = .ok (.goto (-28), 3) := wt_op167 wb14m4_prog_9_method_10_code_c1 12 rfl rfl rfl
theorem wp_tg_fill_d43 : decode prog_9_method_10_code 43 = .ok (.iconst 0, 1) := wt_op3 wb14m4_prog_9_method_10_code_c1 15 rfl rfl
theorem wp_tg_fill_d44 : decode prog_9_method_10_code 44 = .ok (.ireturn, 1) := wt_op172 wb14m4_prog_9_method_10_code_c1 16 rfl rfl
noncomputable def wp_tg_fill_B12 (n : Nat) (t0 : Nat) (K12 : Int32 × wt_St → Option (Int32 × wt_St)) (s : Int32 × wt_St) : Option (Int32 × wt_St) :=
  if (20 : Int32) < s.1 then
    some ((0 : Int32), s.2)
  else
    (wp_tp_over n s.2).bind fun q2 =>
    if q2.1 = 0 then
      (wp_tg_fillGroup n t0 q2.2).bind fun q4 =>
      if q4.1 = 0 then
        some ((0 : Int32), q4.2)
      else
        K12 ((s.1 + (1 : Int32)), q4.2)
    else
      some ((1 : Int32), q2.2)
set_option maxRecDepth 100000 in
set_option maxHeartbeats 4000000 in
theorem wp_tg_fill_B12_ok  {t0 : Nat} {X : wt_X} {n : Nat} {res : Int32 × wt_St} (hE : wt_Ok X prog_9_method_10_code 3 "WornType$Tongue" 6 0) (hR : wt_Rt X (some .boolean) (some res.1) res.2) (hD : ∀ i, i < 108 → wt_dom (wt_xw X) i) (hI_t0 : wt_isTongue t0) (hT_t0 : ∀ j, j < 7 → wt_dom (wt_xw X) (t0 + j)) {K12 : Int32 × wt_St → Option (Int32 × wt_St)} (hK12 : ∀ s : Int32 × wt_St, K12 s = some res → wt_V X 0 s.2 12 [some (.ref (wt_ad (wt_xw X) t0)), some (.ref (wt_ad (wt_xw X) 1)), some (.int s.1)] []) {s : Int32 × wt_St} (h : wp_tg_fill_B12 n t0 K12 s = some res) : wt_V X 0 s.2 12 [some (.ref (wt_ad (wt_xw X) t0)), some (.ref (wt_ad (wt_xw X) 1)), some (.int s.1)] [] := by
  unfold wp_tg_fill_B12 at h
  refine wt_iload_n hE wp_tg_fill_d12 rfl ?_
  refine wt_bipush hE (20 : Int32) wp_tg_fill_d13 wt_cb_20 ?_
  refine wt_icmp_gt hE 43 wp_tg_fill_d15 rfl (fun c1 => ?_) (fun c1 => ?_)
  · have h := wt_ip c1 h
    refine wt_iconst hE (0 : Int32) wp_tg_fill_d43 wt_ci_0 ?_
    cases h
    exact wt_zret hE (by decide) hR wp_tg_fill_d44
  · have h := wt_in c1 h
    refine wt_aload_n hE wp_tg_fill_d18 rfl ?_
    obtain ⟨q2, hq2, h⟩ := wt_bi h
    refine wt_callVi hE [] wt_lm_tg_65 wt_ya_tp_over (wp_tp_over_ok hD hq2) (by omega) (hD 1 (Nat.le_of_ble_eq_true rfl)) wt_L1 rfl rfl rfl (Nat.le_of_ble_eq_true rfl) (Nat.zero_le _) wp_tg_fill_d19 (fun hbq2 => ?_)
    refine wt_if_eq hE 27 wp_tg_fill_d22 rfl (fun c3 => ?_) (fun c3 => ?_)
    · have h := wt_ip c3 h
      refine wt_aload_n hE wp_tg_fill_d27 rfl ?_
      refine wt_aload_n hE wp_tg_fill_d28 rfl ?_
      obtain ⟨q4, hq4, h⟩ := wt_bi h
      refine wt_callVi hE [.ref (wt_ad (wt_xw X) 1)] wt_lm_tg_71 wt_ya_tg_fillGroup (wp_tg_fillGroup_ok hD hI_t0 hT_t0 hq4) (by omega) (hT_t0 0 (Nat.le_of_ble_eq_true rfl)) (hI_t0.1) rfl rfl rfl (Nat.le_of_ble_eq_true rfl) (Nat.zero_le _) wp_tg_fill_d29 (fun hbq4 => ?_)
      refine wt_if_ne hE 37 wp_tg_fill_d32 rfl (fun c5 => ?_) (fun c5 => ?_)
      · have h := wt_in c5 h
        refine wt_iinc hE (s.1 + (1 : Int32)) [some (.ref (wt_ad (wt_xw X) t0)), some (.ref (wt_ad (wt_xw X) 1)), some (.int (s.1 + (1 : Int32)))] wp_tg_fill_d37 (by decide) rfl rfl rfl ?_
        refine wt_goto hE 12 wp_tg_fill_d40 rfl ?_
        exact hK12 ((s.1 + (1 : Int32)), q4.2) h
      · have h := wt_ip c5 h
        refine wt_iconst hE (0 : Int32) wp_tg_fill_d35 wt_ci_0 ?_
        cases h
        exact wt_zret hE (by decide) hR wp_tg_fill_d36
    · have h := wt_in c3 h
      refine wt_iconst hE (1 : Int32) wp_tg_fill_d25 wt_ci_1 ?_
      cases h
      exact wt_zret hE (by decide) hR wp_tg_fill_d26
noncomputable def wp_tg_fill (n : Nat) (t0 : Nat) (σ : wt_St) : Option (Int32 × wt_St) :=
  wt_it (wp_tg_fill_B12 n t0) n ((0 : Int32), (wt_sf (wt_sf σ t0 6 (0 : Int32)) t0 7 (0 : Int32)))
set_option maxRecDepth 100000 in
set_option maxHeartbeats 4000000 in
theorem wp_tg_fill_ok {l : Launch} {w : wt_E} {n : Nat} {t0 : Nat} (hD : ∀ i, i < 108 → wt_dom w i) (hI_t0 : wt_isTongue t0) (hT_t0 : ∀ j, j < 7 → wt_dom w (t0 + j)) {σ : wt_St} {q : Int32 × wt_St} (h : wp_tg_fill n t0 σ = some q) : wt_Ctr l w wt_y_tg_fill prog_9_method_10_code 3 (some .boolean) 6 [.ref (wt_ad w t0), .ref (wt_ad w 1)] σ (some q.1) q.2 := by
  refine wt_ctr wt_pl_tg_fill rfl (Nat.le_of_ble_eq_true rfl) [some (.ref (wt_ad w t0)), some (.ref (wt_ad w 1)), none] rfl ?_
  intro X hXl hXw hE hR
  subst hXl
  subst hXw
  have hE : wt_Ok X prog_9_method_10_code 3 "WornType$Tongue" 6 0 := hE
  unfold wp_tg_fill at h
  refine wt_aload_n hE wp_tg_fill_d0 rfl ?_
  refine wt_iconst hE (0 : Int32) wp_tg_fill_d1 wt_ci_0 ?_
  refine wt_puti hE wt_lf_tg_34 (hT_t0 0 (Nat.le_of_ble_eq_true rfl)) (hI_t0.1) rfl (fun q hq => by cases hq; rfl) wp_tg_fill_d2 ?_
  refine wt_aload_n hE wp_tg_fill_d5 rfl ?_
  refine wt_iconst hE (0 : Int32) wp_tg_fill_d6 wt_ci_0 ?_
  refine wt_puti hE wt_lf_tg_38 (hT_t0 0 (Nat.le_of_ble_eq_true rfl)) (hI_t0.1) rfl (fun q hq => by cases hq; rfl) wp_tg_fill_d7 ?_
  refine wt_iconst hE (0 : Int32) wp_tg_fill_d10 wt_ci_0 ?_
  refine wt_istore_n hE [some (.ref (wt_ad (wt_xw X) t0)), some (.ref (wt_ad (wt_xw X) 1)), some (.int (0 : Int32))] wp_tg_fill_d11 (by decide) rfl ?_
  exact wt_it_ind (fun z => wt_V X 0 z.2 12 [some (.ref (wt_ad (wt_xw X) t0)), some (.ref (wt_ad (wt_xw X) 1)), some (.int z.1)] []) (fun K hK z h => wp_tg_fill_B12_ok hE hR hD hI_t0 hT_t0 hK h) n ((0 : Int32), (wt_sf (wt_sf σ t0 6 (0 : Int32)) t0 7 (0 : Int32))) h
def wb14m4_prog_5_method_6_code_r2 : List (List Nat) := [181, 0, 43, 177] :: []
def wb14m4_prog_5_method_6_code_r1 : List (List Nat) := [42, 180, 0, 43, 29, 184, 0, 59, 42, 180, 0, 33, 42, 180, 0, 43, 21, 4, 184, 0, 59, 42, 89, 180, 0, 43, 4, 96] :: wb14m4_prog_5_method_6_code_r2
def wb14m4_prog_5_method_6_code_r0 : List (List Nat) := [42, 180, 0, 24, 42, 180, 0, 43, 27, 184, 0, 59, 42, 180, 0, 27, 42, 180, 0, 43, 28, 184, 0, 59, 42, 180, 0, 30] :: wb14m4_prog_5_method_6_code_r1
set_option maxRecDepth 100000 in
theorem wb14m4_prog_5_method_6_code_c0 : wt_cs prog_5_method_6_code 0 wb14m4_prog_5_method_6_code_r0 := wt_cs_of (by decide +kernel)
theorem wb14m4_prog_5_method_6_code_c1 : wt_cs prog_5_method_6_code 28 wb14m4_prog_5_method_6_code_r1 := wt_cs_tl (m := 28) wb14m4_prog_5_method_6_code_c0 rfl rfl
theorem wb14m4_prog_5_method_6_code_c2 : wt_cs prog_5_method_6_code 56 wb14m4_prog_5_method_6_code_r2 := wt_cs_tl (m := 28) wb14m4_prog_5_method_6_code_c1 rfl rfl
theorem wp_st_addWanted_d0 : decode prog_5_method_6_code 0 = .ok (.aload_n 0, 1) := wt_op42 wb14m4_prog_5_method_6_code_c0 0 rfl rfl
theorem wp_st_addWanted_d1 : decode prog_5_method_6_code 1 = .ok (.getfield 24, 3) := wt_op180 wb14m4_prog_5_method_6_code_c0 1 rfl rfl rfl
theorem wp_st_addWanted_d4 : decode prog_5_method_6_code 4 = .ok (.aload_n 0, 1) := wt_op42 wb14m4_prog_5_method_6_code_c0 4 rfl rfl
theorem wp_st_addWanted_d5 : decode prog_5_method_6_code 5 = .ok (.getfield 43, 3) := wt_op180 wb14m4_prog_5_method_6_code_c0 5 rfl rfl rfl
theorem wp_st_addWanted_d8 : decode prog_5_method_6_code 8 = .ok (.iload_n 1, 1) := wt_op27 wb14m4_prog_5_method_6_code_c0 8 rfl rfl
theorem wp_st_addWanted_d9 : decode prog_5_method_6_code 9 = .ok (.invokestatic 59, 3) := wt_op184 wb14m4_prog_5_method_6_code_c0 9 rfl rfl rfl
theorem wp_st_addWanted_d12 : decode prog_5_method_6_code 12 = .ok (.aload_n 0, 1) := wt_op42 wb14m4_prog_5_method_6_code_c0 12 rfl rfl
theorem wp_st_addWanted_d13 : decode prog_5_method_6_code 13 = .ok (.getfield 27, 3) := wt_op180 wb14m4_prog_5_method_6_code_c0 13 rfl rfl rfl
theorem wp_st_addWanted_d16 : decode prog_5_method_6_code 16 = .ok (.aload_n 0, 1) := wt_op42 wb14m4_prog_5_method_6_code_c0 16 rfl rfl
theorem wp_st_addWanted_d17 : decode prog_5_method_6_code 17 = .ok (.getfield 43, 3) := wt_op180 wb14m4_prog_5_method_6_code_c0 17 rfl rfl rfl
theorem wp_st_addWanted_d20 : decode prog_5_method_6_code 20 = .ok (.iload_n 2, 1) := wt_op28 wb14m4_prog_5_method_6_code_c0 20 rfl rfl
theorem wp_st_addWanted_d21 : decode prog_5_method_6_code 21 = .ok (.invokestatic 59, 3) := wt_op184 wb14m4_prog_5_method_6_code_c0 21 rfl rfl rfl
theorem wp_st_addWanted_d24 : decode prog_5_method_6_code 24 = .ok (.aload_n 0, 1) := wt_op42 wb14m4_prog_5_method_6_code_c0 24 rfl rfl
theorem wp_st_addWanted_d25 : decode prog_5_method_6_code 25 = .ok (.getfield 30, 3) := wt_op180 wb14m4_prog_5_method_6_code_c0 25 rfl rfl rfl
theorem wp_st_addWanted_d28 : decode prog_5_method_6_code 28 = .ok (.aload_n 0, 1) := wt_op42 wb14m4_prog_5_method_6_code_c1 0 rfl rfl
theorem wp_st_addWanted_d29 : decode prog_5_method_6_code 29 = .ok (.getfield 43, 3) := wt_op180 wb14m4_prog_5_method_6_code_c1 1 rfl rfl rfl
theorem wp_st_addWanted_d32 : decode prog_5_method_6_code 32 = .ok (.iload_n 3, 1) := wt_op29 wb14m4_prog_5_method_6_code_c1 4 rfl rfl
theorem wp_st_addWanted_d33 : decode prog_5_method_6_code 33 = .ok (.invokestatic 59, 3) := wt_op184 wb14m4_prog_5_method_6_code_c1 5 rfl rfl rfl
theorem wp_st_addWanted_d36 : decode prog_5_method_6_code 36 = .ok (.aload_n 0, 1) := wt_op42 wb14m4_prog_5_method_6_code_c1 8 rfl rfl
theorem wp_st_addWanted_d37 : decode prog_5_method_6_code 37 = .ok (.getfield 33, 3) := wt_op180 wb14m4_prog_5_method_6_code_c1 9 rfl rfl rfl
theorem wp_st_addWanted_d40 : decode prog_5_method_6_code 40 = .ok (.aload_n 0, 1) := wt_op42 wb14m4_prog_5_method_6_code_c1 12 rfl rfl
theorem wp_st_addWanted_d41 : decode prog_5_method_6_code 41 = .ok (.getfield 43, 3) := wt_op180 wb14m4_prog_5_method_6_code_c1 13 rfl rfl rfl
theorem wp_st_addWanted_d44 : decode prog_5_method_6_code 44 = .ok (.iload 4, 2) := wt_op21 wb14m4_prog_5_method_6_code_c1 16 rfl rfl
theorem wp_st_addWanted_d46 : decode prog_5_method_6_code 46 = .ok (.invokestatic 59, 3) := wt_op184 wb14m4_prog_5_method_6_code_c1 18 rfl rfl rfl
theorem wp_st_addWanted_d49 : decode prog_5_method_6_code 49 = .ok (.aload_n 0, 1) := wt_op42 wb14m4_prog_5_method_6_code_c1 21 rfl rfl
theorem wp_st_addWanted_d50 : decode prog_5_method_6_code 50 = .ok (.dup, 1) := wt_op89 wb14m4_prog_5_method_6_code_c1 22 rfl rfl
theorem wp_st_addWanted_d51 : decode prog_5_method_6_code 51 = .ok (.getfield 43, 3) := wt_op180 wb14m4_prog_5_method_6_code_c1 23 rfl rfl rfl
theorem wp_st_addWanted_d54 : decode prog_5_method_6_code 54 = .ok (.iconst 1, 1) := wt_op4 wb14m4_prog_5_method_6_code_c1 26 rfl rfl
theorem wp_st_addWanted_d55 : decode prog_5_method_6_code 55 = .ok (.iadd, 1) := wt_op96 wb14m4_prog_5_method_6_code_c1 27 rfl rfl
theorem wp_st_addWanted_d56 : decode prog_5_method_6_code 56 = .ok (.putfield 43, 3) := wt_op181 wb14m4_prog_5_method_6_code_c2 0 rfl rfl rfl
theorem wp_st_addWanted_d59 : decode prog_5_method_6_code 59 = .ok (.return_, 1) := wt_op177 wb14m4_prog_5_method_6_code_c2 3 rfl rfl
noncomputable def wp_st_addWanted (n : Nat) (t0 : Nat) (x1 : Int32) (x2 : Int32) (x3 : Int32) (x4 : Int32) (σ : wt_St) : Option (wt_St) :=
  (wp_ap_put n (t0 + 5) (wt_gf σ t0 8) x1 σ).bind fun q1 =>
  (wp_ap_put n (t0 + 6) (wt_gf q1 t0 8) x2 q1).bind fun q2 =>
  (wp_ap_put n (t0 + 7) (wt_gf q2 t0 8) x3 q2).bind fun q3 =>
  (wp_ap_put n (t0 + 8) (wt_gf q3 t0 8) x4 q3).bind fun q4 =>
  some (wt_sf q4 t0 8 ((wt_gf q4 t0 8) + (1 : Int32)))
set_option maxRecDepth 100000 in
set_option maxHeartbeats 4000000 in
theorem wp_st_addWanted_ok {l : Launch} {w : wt_E} {n : Nat} {t0 : Nat} {x1 : Int32} {x2 : Int32} {x3 : Int32} {x4 : Int32} (hI_t0 : wt_isState t0) (hT_t0 : ∀ j, j < 9 → wt_dom w (t0 + j)) {σ : wt_St} {q : wt_St} (h : wp_st_addWanted n t0 x1 x2 x3 x4 σ = some q) : wt_Ctr l w wt_y_st_addWanted prog_5_method_6_code 5 none 1 [.ref (wt_ad w t0), .int x1, .int x2, .int x3, .int x4] σ none q := by
  refine wt_ctr wt_pl_st_addWanted rfl (Nat.le_of_ble_eq_true rfl) [some (.ref (wt_ad w t0)), some (.int x1), some (.int x2), some (.int x3), some (.int x4)] rfl ?_
  intro X hXl hXw hE hR
  subst hXl
  subst hXw
  have hE : wt_Ok X prog_5_method_6_code 5 "WornType$State" 1 0 := hE
  unfold wp_st_addWanted at h
  refine wt_aload_n hE wp_st_addWanted_d0 rfl ?_
  refine wt_getr hE (r := (t0 + 5)) wt_lf_st_24 (hT_t0 0 (Nat.le_of_ble_eq_true rfl)) (hI_t0.1) rfl wp_st_addWanted_d1 ?_
  refine wt_aload_n hE wp_st_addWanted_d4 rfl ?_
  refine wt_geti hE wt_lf_st_43 (hT_t0 0 (Nat.le_of_ble_eq_true rfl)) (hI_t0.1) rfl wp_st_addWanted_d5 ?_
  refine wt_iload_n hE wp_st_addWanted_d8 rfl ?_
  obtain ⟨q1, hq1, h⟩ := wt_bi h
  refine wt_callSv hE [.ref (wt_ad (wt_xw X) ((t0 + 5))), .int (wt_gf σ t0 8), .int x1] wt_lm_st_59 wt_ya_ap_put (wp_ap_put_ok (wt_lnE (wt_isState_L5 hI_t0)) (hT_t0 5 (Nat.le_of_ble_eq_true rfl)) hq1) (by omega) rfl rfl (Nat.le_of_ble_eq_true rfl) (Nat.zero_le _) wp_st_addWanted_d9 ?_
  refine wt_aload_n hE wp_st_addWanted_d12 rfl ?_
  refine wt_getr hE (r := (t0 + 6)) wt_lf_st_27 (hT_t0 0 (Nat.le_of_ble_eq_true rfl)) (hI_t0.1) rfl wp_st_addWanted_d13 ?_
  refine wt_aload_n hE wp_st_addWanted_d16 rfl ?_
  refine wt_geti hE wt_lf_st_43 (hT_t0 0 (Nat.le_of_ble_eq_true rfl)) (hI_t0.1) rfl wp_st_addWanted_d17 ?_
  refine wt_iload_n hE wp_st_addWanted_d20 rfl ?_
  obtain ⟨q2, hq2, h⟩ := wt_bi h
  refine wt_callSv hE [.ref (wt_ad (wt_xw X) ((t0 + 6))), .int (wt_gf q1 t0 8), .int x2] wt_lm_st_59 wt_ya_ap_put (wp_ap_put_ok (wt_lnE (wt_isState_L6 hI_t0)) (hT_t0 6 (Nat.le_of_ble_eq_true rfl)) hq2) (by omega) rfl rfl (Nat.le_of_ble_eq_true rfl) (Nat.zero_le _) wp_st_addWanted_d21 ?_
  refine wt_aload_n hE wp_st_addWanted_d24 rfl ?_
  refine wt_getr hE (r := (t0 + 7)) wt_lf_st_30 (hT_t0 0 (Nat.le_of_ble_eq_true rfl)) (hI_t0.1) rfl wp_st_addWanted_d25 ?_
  refine wt_aload_n hE wp_st_addWanted_d28 rfl ?_
  refine wt_geti hE wt_lf_st_43 (hT_t0 0 (Nat.le_of_ble_eq_true rfl)) (hI_t0.1) rfl wp_st_addWanted_d29 ?_
  refine wt_iload_n hE wp_st_addWanted_d32 rfl ?_
  obtain ⟨q3, hq3, h⟩ := wt_bi h
  refine wt_callSv hE [.ref (wt_ad (wt_xw X) ((t0 + 7))), .int (wt_gf q2 t0 8), .int x3] wt_lm_st_59 wt_ya_ap_put (wp_ap_put_ok (wt_lnE (wt_isState_L7 hI_t0)) (hT_t0 7 (Nat.le_of_ble_eq_true rfl)) hq3) (by omega) rfl rfl (Nat.le_of_ble_eq_true rfl) (Nat.zero_le _) wp_st_addWanted_d33 ?_
  refine wt_aload_n hE wp_st_addWanted_d36 rfl ?_
  refine wt_getr hE (r := (t0 + 8)) wt_lf_st_33 (hT_t0 0 (Nat.le_of_ble_eq_true rfl)) (hI_t0.1) rfl wp_st_addWanted_d37 ?_
  refine wt_aload_n hE wp_st_addWanted_d40 rfl ?_
  refine wt_geti hE wt_lf_st_43 (hT_t0 0 (Nat.le_of_ble_eq_true rfl)) (hI_t0.1) rfl wp_st_addWanted_d41 ?_
  refine wt_iload hE wp_st_addWanted_d44 rfl ?_
  obtain ⟨q4, hq4, h⟩ := wt_bi h
  refine wt_callSv hE [.ref (wt_ad (wt_xw X) ((t0 + 8))), .int (wt_gf q3 t0 8), .int x4] wt_lm_st_59 wt_ya_ap_put (wp_ap_put_ok (wt_lnE (wt_isState_L8 hI_t0)) (hT_t0 8 (Nat.le_of_ble_eq_true rfl)) hq4) (by omega) rfl rfl (Nat.le_of_ble_eq_true rfl) (Nat.zero_le _) wp_st_addWanted_d46 ?_
  refine wt_aload_n hE wp_st_addWanted_d49 rfl ?_
  refine wt_dup hE wp_st_addWanted_d50 rfl ?_
  refine wt_geti hE wt_lf_st_43 (hT_t0 0 (Nat.le_of_ble_eq_true rfl)) (hI_t0.1) rfl wp_st_addWanted_d51 ?_
  refine wt_iconst hE (1 : Int32) wp_st_addWanted_d54 wt_ci_1 ?_
  refine wt_iadd hE wp_st_addWanted_d55 ?_
  refine wt_puti hE wt_lf_st_43 (hT_t0 0 (Nat.le_of_ble_eq_true rfl)) (hI_t0.1) rfl (fun q hq => by cases hq; rfl) wp_st_addWanted_d56 ?_
  cases h
  exact wt_vret hE hR wp_st_addWanted_d59
def wb14m4_prog_4_method_12_code_r3 : List (List Nat) := [167, 0, 4, 3, 96, 54, 6, 132, 7, 1, 167, 255, 197, 21, 6, 172] :: []
def wb14m4_prog_4_method_12_code_r2 : List (List Nat) := [182, 0, 78, 21, 7, 96, 54, 8, 21, 6, 42, 29, 21, 8, 182, 0, 120, 153, 0, 15, 42, 27, 21, 4, 21, 8, 182, 0, 95] :: wb14m4_prog_4_method_12_code_r3
def wb14m4_prog_4_method_12_code_r1 : List (List Nat) := [54, 5, 3, 54, 6, 3, 54, 7, 21, 7, 42, 180, 0, 15, 21, 5, 182, 0, 75, 162, 0, 51, 42, 180, 0, 15, 21, 5] :: wb14m4_prog_4_method_12_code_r2
def wb14m4_prog_4_method_12_code_r0 : List (List Nat) := [28, 4, 96, 54, 4, 21, 4, 42, 180, 0, 19, 27, 182, 0, 66, 161, 0, 5, 4, 172, 42, 180, 0, 19, 27, 21, 4, 182, 0, 72] :: wb14m4_prog_4_method_12_code_r1
set_option maxRecDepth 100000 in
theorem wb14m4_prog_4_method_12_code_c0 : wt_cs prog_4_method_12_code 0 wb14m4_prog_4_method_12_code_r0 := wt_cs_of (by decide +kernel)
theorem wb14m4_prog_4_method_12_code_c1 : wt_cs prog_4_method_12_code 30 wb14m4_prog_4_method_12_code_r1 := wt_cs_tl (m := 30) wb14m4_prog_4_method_12_code_c0 rfl rfl
theorem wb14m4_prog_4_method_12_code_c2 : wt_cs prog_4_method_12_code 58 wb14m4_prog_4_method_12_code_r2 := wt_cs_tl (m := 28) wb14m4_prog_4_method_12_code_c1 rfl rfl
theorem wb14m4_prog_4_method_12_code_c3 : wt_cs prog_4_method_12_code 87 wb14m4_prog_4_method_12_code_r3 := wt_cs_tl (m := 29) wb14m4_prog_4_method_12_code_c2 rfl rfl
theorem wp_rw_waysBehind_d0 : decode prog_4_method_12_code 0 = .ok (.iload_n 2, 1) := wt_op28 wb14m4_prog_4_method_12_code_c0 0 rfl rfl
theorem wp_rw_waysBehind_d1 : decode prog_4_method_12_code 1 = .ok (.iconst 1, 1) := wt_op4 wb14m4_prog_4_method_12_code_c0 1 rfl rfl
theorem wp_rw_waysBehind_d2 : decode prog_4_method_12_code 2 = .ok (.iadd, 1) := wt_op96 wb14m4_prog_4_method_12_code_c0 2 rfl rfl
theorem wp_rw_waysBehind_d3 : decode prog_4_method_12_code 3 = .ok (.istore 4, 2) := wt_op54 wb14m4_prog_4_method_12_code_c0 3 rfl rfl
theorem wp_rw_waysBehind_d5 : decode prog_4_method_12_code 5 = .ok (.iload 4, 2) := wt_op21 wb14m4_prog_4_method_12_code_c0 5 rfl rfl
theorem wp_rw_waysBehind_d7 : decode prog_4_method_12_code 7 = .ok (.aload_n 0, 1) := wt_op42 wb14m4_prog_4_method_12_code_c0 7 rfl rfl
theorem wp_rw_waysBehind_d8 : decode prog_4_method_12_code 8 = .ok (.getfield 19, 3) := wt_op180 wb14m4_prog_4_method_12_code_c0 8 rfl rfl rfl
theorem wp_rw_waysBehind_d11 : decode prog_4_method_12_code 11 = .ok (.iload_n 1, 1) := wt_op27 wb14m4_prog_4_method_12_code_c0 11 rfl rfl
theorem wp_rw_waysBehind_d12 : decode prog_4_method_12_code 12 = .ok (.invokevirtual 66, 3) := wt_op182 wb14m4_prog_4_method_12_code_c0 12 rfl rfl rfl
theorem wp_rw_waysBehind_d15 : decode prog_4_method_12_code 15 = .ok (.if_icmp .lt 5, 3) := wt_op161 wb14m4_prog_4_method_12_code_c0 15 rfl rfl rfl
theorem wp_rw_waysBehind_d18 : decode prog_4_method_12_code 18 = .ok (.iconst 1, 1) := wt_op4 wb14m4_prog_4_method_12_code_c0 18 rfl rfl
theorem wp_rw_waysBehind_d19 : decode prog_4_method_12_code 19 = .ok (.ireturn, 1) := wt_op172 wb14m4_prog_4_method_12_code_c0 19 rfl rfl
theorem wp_rw_waysBehind_d20 : decode prog_4_method_12_code 20 = .ok (.aload_n 0, 1) := wt_op42 wb14m4_prog_4_method_12_code_c0 20 rfl rfl
theorem wp_rw_waysBehind_d21 : decode prog_4_method_12_code 21 = .ok (.getfield 19, 3) := wt_op180 wb14m4_prog_4_method_12_code_c0 21 rfl rfl rfl
theorem wp_rw_waysBehind_d24 : decode prog_4_method_12_code 24 = .ok (.iload_n 1, 1) := wt_op27 wb14m4_prog_4_method_12_code_c0 24 rfl rfl
theorem wp_rw_waysBehind_d25 : decode prog_4_method_12_code 25 = .ok (.iload 4, 2) := wt_op21 wb14m4_prog_4_method_12_code_c0 25 rfl rfl
theorem wp_rw_waysBehind_d27 : decode prog_4_method_12_code 27 = .ok (.invokevirtual 72, 3) := wt_op182 wb14m4_prog_4_method_12_code_c0 27 rfl rfl rfl
theorem wp_rw_waysBehind_d30 : decode prog_4_method_12_code 30 = .ok (.istore 5, 2) := wt_op54 wb14m4_prog_4_method_12_code_c1 0 rfl rfl
theorem wp_rw_waysBehind_d32 : decode prog_4_method_12_code 32 = .ok (.iconst 0, 1) := wt_op3 wb14m4_prog_4_method_12_code_c1 2 rfl rfl
theorem wp_rw_waysBehind_d33 : decode prog_4_method_12_code 33 = .ok (.istore 6, 2) := wt_op54 wb14m4_prog_4_method_12_code_c1 3 rfl rfl
theorem wp_rw_waysBehind_d35 : decode prog_4_method_12_code 35 = .ok (.iconst 0, 1) := wt_op3 wb14m4_prog_4_method_12_code_c1 5 rfl rfl
theorem wp_rw_waysBehind_d36 : decode prog_4_method_12_code 36 = .ok (.istore 7, 2) := wt_op54 wb14m4_prog_4_method_12_code_c1 6 rfl rfl
theorem wp_rw_waysBehind_d38 : decode prog_4_method_12_code 38 = .ok (.iload 7, 2) := wt_op21 wb14m4_prog_4_method_12_code_c1 8 rfl rfl
theorem wp_rw_waysBehind_d40 : decode prog_4_method_12_code 40 = .ok (.aload_n 0, 1) := wt_op42 wb14m4_prog_4_method_12_code_c1 10 rfl rfl
theorem wp_rw_waysBehind_d41 : decode prog_4_method_12_code 41 = .ok (.getfield 15, 3) := wt_op180 wb14m4_prog_4_method_12_code_c1 11 rfl rfl rfl
theorem wp_rw_waysBehind_d44 : decode prog_4_method_12_code 44 = .ok (.iload 5, 2) := wt_op21 wb14m4_prog_4_method_12_code_c1 14 rfl rfl
theorem wp_rw_waysBehind_d46 : decode prog_4_method_12_code 46 = .ok (.invokevirtual 75, 3) := wt_op182 wb14m4_prog_4_method_12_code_c1 16 rfl rfl rfl
theorem wp_rw_waysBehind_d49 : decode prog_4_method_12_code 49 = .ok (.if_icmp .ge 51, 3) := wt_op162 wb14m4_prog_4_method_12_code_c1 19 rfl rfl rfl
theorem wp_rw_waysBehind_d52 : decode prog_4_method_12_code 52 = .ok (.aload_n 0, 1) := wt_op42 wb14m4_prog_4_method_12_code_c1 22 rfl rfl
theorem wp_rw_waysBehind_d53 : decode prog_4_method_12_code 53 = .ok (.getfield 15, 3) := wt_op180 wb14m4_prog_4_method_12_code_c1 23 rfl rfl rfl
theorem wp_rw_waysBehind_d56 : decode prog_4_method_12_code 56 = .ok (.iload 5, 2) := wt_op21 wb14m4_prog_4_method_12_code_c1 26 rfl rfl
theorem wp_rw_waysBehind_d58 : decode prog_4_method_12_code 58 = .ok (.invokevirtual 78, 3) := wt_op182 wb14m4_prog_4_method_12_code_c2 0 rfl rfl rfl
theorem wp_rw_waysBehind_d61 : decode prog_4_method_12_code 61 = .ok (.iload 7, 2) := wt_op21 wb14m4_prog_4_method_12_code_c2 3 rfl rfl
theorem wp_rw_waysBehind_d63 : decode prog_4_method_12_code 63 = .ok (.iadd, 1) := wt_op96 wb14m4_prog_4_method_12_code_c2 5 rfl rfl
theorem wp_rw_waysBehind_d64 : decode prog_4_method_12_code 64 = .ok (.istore 8, 2) := wt_op54 wb14m4_prog_4_method_12_code_c2 6 rfl rfl
theorem wp_rw_waysBehind_d66 : decode prog_4_method_12_code 66 = .ok (.iload 6, 2) := wt_op21 wb14m4_prog_4_method_12_code_c2 8 rfl rfl
theorem wp_rw_waysBehind_d68 : decode prog_4_method_12_code 68 = .ok (.aload_n 0, 1) := wt_op42 wb14m4_prog_4_method_12_code_c2 10 rfl rfl
theorem wp_rw_waysBehind_d69 : decode prog_4_method_12_code 69 = .ok (.iload_n 3, 1) := wt_op29 wb14m4_prog_4_method_12_code_c2 11 rfl rfl
theorem wp_rw_waysBehind_d70 : decode prog_4_method_12_code 70 = .ok (.iload 8, 2) := wt_op21 wb14m4_prog_4_method_12_code_c2 12 rfl rfl
theorem wp_rw_waysBehind_d72 : decode prog_4_method_12_code 72 = .ok (.invokevirtual 120, 3) := wt_op182 wb14m4_prog_4_method_12_code_c2 14 rfl rfl rfl
theorem wp_rw_waysBehind_d75 : decode prog_4_method_12_code 75 = .ok (.ifCond .eq 15, 3) := wt_op153 wb14m4_prog_4_method_12_code_c2 17 rfl rfl rfl
theorem wp_rw_waysBehind_d78 : decode prog_4_method_12_code 78 = .ok (.aload_n 0, 1) := wt_op42 wb14m4_prog_4_method_12_code_c2 20 rfl rfl
theorem wp_rw_waysBehind_d79 : decode prog_4_method_12_code 79 = .ok (.iload_n 1, 1) := wt_op27 wb14m4_prog_4_method_12_code_c2 21 rfl rfl
theorem wp_rw_waysBehind_d80 : decode prog_4_method_12_code 80 = .ok (.iload 4, 2) := wt_op21 wb14m4_prog_4_method_12_code_c2 22 rfl rfl
theorem wp_rw_waysBehind_d82 : decode prog_4_method_12_code 82 = .ok (.iload 8, 2) := wt_op21 wb14m4_prog_4_method_12_code_c2 24 rfl rfl
theorem wp_rw_waysBehind_d84 : decode prog_4_method_12_code 84 = .ok (.invokevirtual 95, 3) := wt_op182 wb14m4_prog_4_method_12_code_c2 26 rfl rfl rfl
theorem wp_rw_waysBehind_d87 : decode prog_4_method_12_code 87 = .ok (.goto 4, 3) := wt_op167 wb14m4_prog_4_method_12_code_c3 0 rfl rfl rfl
theorem wp_rw_waysBehind_d90 : decode prog_4_method_12_code 90 = .ok (.iconst 0, 1) := wt_op3 wb14m4_prog_4_method_12_code_c3 3 rfl rfl
theorem wp_rw_waysBehind_d91 : decode prog_4_method_12_code 91 = .ok (.iadd, 1) := wt_op96 wb14m4_prog_4_method_12_code_c3 4 rfl rfl
theorem wp_rw_waysBehind_d92 : decode prog_4_method_12_code 92 = .ok (.istore 6, 2) := wt_op54 wb14m4_prog_4_method_12_code_c3 5 rfl rfl
theorem wp_rw_waysBehind_d94 : decode prog_4_method_12_code 94 = .ok (.iinc 7 1, 3) := wt_op132 wb14m4_prog_4_method_12_code_c3 7 rfl rfl rfl
theorem wp_rw_waysBehind_d97 : decode prog_4_method_12_code 97 = .ok (.goto (-59), 3) := wt_op167 wb14m4_prog_4_method_12_code_c3 10 rfl rfl rfl
theorem wp_rw_waysBehind_d100 : decode prog_4_method_12_code 100 = .ok (.iload 6, 2) := wt_op21 wb14m4_prog_4_method_12_code_c3 13 rfl rfl
theorem wp_rw_waysBehind_d102 : decode prog_4_method_12_code 102 = .ok (.ireturn, 1) := wt_op172 wb14m4_prog_4_method_12_code_c3 15 rfl rfl
noncomputable def wp_rw_waysBehind_B91 (n : Nat) (x1 : Int32) (x3 : Int32) (x4 : Int32) (x5 : Int32) (x7 : Int32) (K38 : Int32 × Int32 × wt_St → Option (Int32 × wt_St)) (y0 : Int32) (y1 : Int32) (σ : wt_St) : Option (Int32 × wt_St) :=
  K38 ((y0 + y1), (x7 + (1 : Int32)), σ)
set_option maxRecDepth 100000 in
set_option maxHeartbeats 4000000 in
theorem wp_rw_waysBehind_B91_ok  {x1 : Int32} {x3 : Int32} {x4 : Int32} {x5 : Int32} {x7 : Int32} {X : wt_X} {n : Nat} {res : Int32 × wt_St} (hE : wt_Ok X prog_4_method_12_code 9 "WornType$Rows" 4 0) (hR : wt_Rt X (some .int) (some res.1) res.2) (hD : ∀ i, i < 108 → wt_dom (wt_xw X) i)  {K38 : Int32 × Int32 × wt_St → Option (Int32 × wt_St)} (hK38 : ∀ s : Int32 × Int32 × wt_St, K38 s = some res → wt_V X 0 s.2.2 38 [some (.ref (wt_ad (wt_xw X) 81)), some (.int x1), none, some (.int x3), some (.int x4), some (.int x5), some (.int s.1), some (.int s.2.1), none] []) {σ : wt_St} {y0 : Int32} {y1 : Int32} (h : wp_rw_waysBehind_B91 n x1 x3 x4 x5 x7 K38 y0 y1 σ = some res) : wt_V X 0 σ 91 [some (.ref (wt_ad (wt_xw X) 81)), some (.int x1), none, some (.int x3), some (.int x4), some (.int x5), none, some (.int x7), none] [.int y1, .int y0] := by
  unfold wp_rw_waysBehind_B91 at h
  refine wt_iadd hE wp_rw_waysBehind_d91 ?_
  refine wt_istore hE [some (.ref (wt_ad (wt_xw X) 81)), some (.int x1), none, some (.int x3), some (.int x4), some (.int x5), some (.int (y0 + y1)), some (.int x7), none] wp_rw_waysBehind_d92 (Nat.le_of_ble_eq_true rfl) rfl ?_
  refine wt_iinc hE (x7 + (1 : Int32)) [some (.ref (wt_ad (wt_xw X) 81)), some (.int x1), none, some (.int x3), some (.int x4), some (.int x5), some (.int (y0 + y1)), some (.int (x7 + (1 : Int32))), none] wp_rw_waysBehind_d94 (by decide) rfl rfl rfl ?_
  refine wt_goto hE 38 wp_rw_waysBehind_d97 rfl ?_
  exact hK38 ((y0 + y1), (x7 + (1 : Int32)), σ) h
noncomputable def wp_rw_waysBehind_B38 (n : Nat) (x1 : Int32) (x3 : Int32) (x4 : Int32) (x5 : Int32) (K38 : Int32 × Int32 × wt_St → Option (Int32 × wt_St)) (s : Int32 × Int32 × wt_St) : Option (Int32 × wt_St) :=
  (wp_tg_membersLike n 20 x5 s.2.2).bind fun q4 =>
  if q4.1 ≤ s.2.1 then
    some (s.1, q4.2)
  else
    (wp_tg_firstLike n 20 x5 q4.2).bind fun q6 =>
    (wp_rw_mayFollow n x3 (q6.1 + s.2.1) q6.2).bind fun q7 =>
    if q7.1 = 0 then
      wp_rw_waysBehind_B91 n x1 x3 x4 x5 s.2.1 K38 s.1 (0 : Int32) q7.2
    else
      (wp_rw_sumAt n x1 x4 (q6.1 + s.2.1) q7.2).bind fun q9 =>
      wp_rw_waysBehind_B91 n x1 x3 x4 x5 s.2.1 K38 s.1 q9.1 q9.2
set_option maxRecDepth 100000 in
set_option maxHeartbeats 4000000 in
theorem wp_rw_waysBehind_B38_ok  {x1 : Int32} {x3 : Int32} {x4 : Int32} {x5 : Int32} {X : wt_X} {n : Nat} {res : Int32 × wt_St} (hE : wt_Ok X prog_4_method_12_code 9 "WornType$Rows" 4 0) (hR : wt_Rt X (some .int) (some res.1) res.2) (hD : ∀ i, i < 108 → wt_dom (wt_xw X) i)  {K38 : Int32 × Int32 × wt_St → Option (Int32 × wt_St)} (hK38 : ∀ s : Int32 × Int32 × wt_St, K38 s = some res → wt_V X 0 s.2.2 38 [some (.ref (wt_ad (wt_xw X) 81)), some (.int x1), none, some (.int x3), some (.int x4), some (.int x5), some (.int s.1), some (.int s.2.1), none] []) {s : Int32 × Int32 × wt_St} (h : wp_rw_waysBehind_B38 n x1 x3 x4 x5 K38 s = some res) : wt_V X 0 s.2.2 38 [some (.ref (wt_ad (wt_xw X) 81)), some (.int x1), none, some (.int x3), some (.int x4), some (.int x5), some (.int s.1), some (.int s.2.1), none] [] := by
  unfold wp_rw_waysBehind_B38 at h
  refine wt_iload hE wp_rw_waysBehind_d38 rfl ?_
  refine wt_aload_n hE wp_rw_waysBehind_d40 rfl ?_
  refine wt_getr hE (r := 20) wt_lf_rw_15 (hD 81 (Nat.le_of_ble_eq_true rfl)) wt_L81 rfl wp_rw_waysBehind_d41 ?_
  refine wt_iload hE wp_rw_waysBehind_d44 rfl ?_
  obtain ⟨q4, hq4, h⟩ := wt_bi h
  refine wt_callVi hE [.int x5] wt_lm_rw_75 wt_ya_tg_membersLike (wp_tg_membersLike_ok wt_isTongue_20 (fun j hj => hD (20 + j) (by omega)) hq4) (by omega) (hD 20 (Nat.le_of_ble_eq_true rfl)) wt_L20 rfl rfl rfl (Nat.le_of_ble_eq_true rfl) (Nat.zero_le _) wp_rw_waysBehind_d46 (fun hbq4 => ?_)
  refine wt_icmp_ge hE 100 wp_rw_waysBehind_d49 rfl (fun c5 => ?_) (fun c5 => ?_)
  · have h := wt_ip c5 h
    refine wt_iload hE wp_rw_waysBehind_d100 rfl ?_
    cases h
    exact wt_iret hE hR wp_rw_waysBehind_d102
  · have h := wt_in c5 h
    refine wt_aload_n hE wp_rw_waysBehind_d52 rfl ?_
    refine wt_getr hE (r := 20) wt_lf_rw_15 (hD 81 (Nat.le_of_ble_eq_true rfl)) wt_L81 rfl wp_rw_waysBehind_d53 ?_
    refine wt_iload hE wp_rw_waysBehind_d56 rfl ?_
    obtain ⟨q6, hq6, h⟩ := wt_bi h
    refine wt_callVi hE [.int x5] wt_lm_rw_78 wt_ya_tg_firstLike (wp_tg_firstLike_ok wt_isTongue_20 (fun j hj => hD (20 + j) (by omega)) hq6) (by omega) (hD 20 (Nat.le_of_ble_eq_true rfl)) wt_L20 rfl rfl rfl (Nat.le_of_ble_eq_true rfl) (Nat.zero_le _) wp_rw_waysBehind_d58 (fun hbq6 => ?_)
    refine wt_iload hE wp_rw_waysBehind_d61 rfl ?_
    refine wt_iadd hE wp_rw_waysBehind_d63 ?_
    refine wt_istore hE [some (.ref (wt_ad (wt_xw X) 81)), some (.int x1), none, some (.int x3), some (.int x4), some (.int x5), some (.int s.1), some (.int s.2.1), some (.int (q6.1 + s.2.1))] wp_rw_waysBehind_d64 (Nat.le_of_ble_eq_true rfl) rfl ?_
    refine wt_iload hE wp_rw_waysBehind_d66 rfl ?_
    refine wt_aload_n hE wp_rw_waysBehind_d68 rfl ?_
    refine wt_iload_n hE wp_rw_waysBehind_d69 rfl ?_
    refine wt_iload hE wp_rw_waysBehind_d70 rfl ?_
    obtain ⟨q7, hq7, h⟩ := wt_bi h
    refine wt_callVi hE [.int x3, .int (q6.1 + s.2.1)] wt_lm_rw_120 wt_ya_rw_mayFollow (wp_rw_mayFollow_ok hD hq7) (by omega) (hD 81 (Nat.le_of_ble_eq_true rfl)) wt_L81 rfl rfl rfl (Nat.le_of_ble_eq_true rfl) (Nat.zero_le _) wp_rw_waysBehind_d72 (fun hbq7 => ?_)
    refine wt_if_eq hE 90 wp_rw_waysBehind_d75 rfl (fun c8 => ?_) (fun c8 => ?_)
    · have h := wt_ip c8 h
      refine wt_iconst hE (0 : Int32) wp_rw_waysBehind_d90 wt_ci_0 ?_
      refine wt_wk [true, true, true, true, true, true, false, true, false] rfl ?_
      exact wp_rw_waysBehind_B91_ok hE hR hD hK38 h
    · have h := wt_in c8 h
      refine wt_aload_n hE wp_rw_waysBehind_d78 rfl ?_
      refine wt_iload_n hE wp_rw_waysBehind_d79 rfl ?_
      refine wt_iload hE wp_rw_waysBehind_d80 rfl ?_
      refine wt_iload hE wp_rw_waysBehind_d82 rfl ?_
      obtain ⟨q9, hq9, h⟩ := wt_bi h
      refine wt_callVi hE [.int x1, .int x4, .int (q6.1 + s.2.1)] wt_lm_rw_95 wt_ya_rw_sumAt (wp_rw_sumAt_ok hD hq9) (by omega) (hD 81 (Nat.le_of_ble_eq_true rfl)) wt_L81 rfl rfl rfl (Nat.le_of_ble_eq_true rfl) (Nat.zero_le _) wp_rw_waysBehind_d84 (fun hbq9 => ?_)
      refine wt_goto hE 91 wp_rw_waysBehind_d87 rfl ?_
      refine wt_wk [true, true, true, true, true, true, false, true, false] rfl ?_
      exact wp_rw_waysBehind_B91_ok hE hR hD hK38 h
noncomputable def wp_rw_waysBehind (n : Nat) (x1 : Int32) (x2 : Int32) (x3 : Int32) (σ : wt_St) : Option (Int32 × wt_St) :=
  (wp_tx_lengthOf n x1 σ).bind fun q1 =>
  if (x2 + (1 : Int32)) < q1.1 then
    (wp_tx_wordAt n x1 (x2 + (1 : Int32)) q1.2).bind fun q3 =>
    wt_it (wp_rw_waysBehind_B38 n x1 x3 (x2 + (1 : Int32)) q3.1) n ((0 : Int32), (0 : Int32), q3.2)
  else
    some ((1 : Int32), q1.2)
set_option maxRecDepth 100000 in
set_option maxHeartbeats 4000000 in
theorem wp_rw_waysBehind_ok {l : Launch} {w : wt_E} {n : Nat} {x1 : Int32} {x2 : Int32} {x3 : Int32} (hD : ∀ i, i < 108 → wt_dom w i) {σ : wt_St} {q : Int32 × wt_St} (h : wp_rw_waysBehind n x1 x2 x3 σ = some q) : wt_Ctr l w wt_y_rw_waysBehind prog_4_method_12_code 9 (some .int) 4 [.ref (wt_ad w 81), .int x1, .int x2, .int x3] σ (some q.1) q.2 := by
  refine wt_ctr wt_pl_rw_waysBehind rfl (Nat.le_of_ble_eq_true rfl) [some (.ref (wt_ad w 81)), some (.int x1), some (.int x2), some (.int x3), none, none, none, none, none] rfl ?_
  intro X hXl hXw hE hR
  subst hXl
  subst hXw
  have hE : wt_Ok X prog_4_method_12_code 9 "WornType$Rows" 4 0 := hE
  unfold wp_rw_waysBehind at h
  refine wt_iload_n hE wp_rw_waysBehind_d0 rfl ?_
  refine wt_iconst hE (1 : Int32) wp_rw_waysBehind_d1 wt_ci_1 ?_
  refine wt_iadd hE wp_rw_waysBehind_d2 ?_
  refine wt_istore hE [some (.ref (wt_ad (wt_xw X) 81)), some (.int x1), some (.int x2), some (.int x3), some (.int (x2 + (1 : Int32))), none, none, none, none] wp_rw_waysBehind_d3 (Nat.le_of_ble_eq_true rfl) rfl ?_
  refine wt_iload hE wp_rw_waysBehind_d5 rfl ?_
  refine wt_aload_n hE wp_rw_waysBehind_d7 rfl ?_
  refine wt_getr hE (r := 34) wt_lf_rw_19 (hD 81 (Nat.le_of_ble_eq_true rfl)) wt_L81 rfl wp_rw_waysBehind_d8 ?_
  refine wt_iload_n hE wp_rw_waysBehind_d11 rfl ?_
  obtain ⟨q1, hq1, h⟩ := wt_bi h
  refine wt_callVi hE [.int x1] wt_lm_rw_66 wt_ya_tx_lengthOf (wp_tx_lengthOf_ok hD hq1) (by omega) (hD 34 (Nat.le_of_ble_eq_true rfl)) wt_L34 rfl rfl rfl (Nat.le_of_ble_eq_true rfl) (Nat.zero_le _) wp_rw_waysBehind_d12 (fun hbq1 => ?_)
  refine wt_icmp_lt hE 20 wp_rw_waysBehind_d15 rfl (fun c2 => ?_) (fun c2 => ?_)
  · have h := wt_ip c2 h
    refine wt_aload_n hE wp_rw_waysBehind_d20 rfl ?_
    refine wt_getr hE (r := 34) wt_lf_rw_19 (hD 81 (Nat.le_of_ble_eq_true rfl)) wt_L81 rfl wp_rw_waysBehind_d21 ?_
    refine wt_iload_n hE wp_rw_waysBehind_d24 rfl ?_
    refine wt_iload hE wp_rw_waysBehind_d25 rfl ?_
    obtain ⟨q3, hq3, h⟩ := wt_bi h
    refine wt_callVi hE [.int x1, .int (x2 + (1 : Int32))] wt_lm_rw_72 wt_ya_tx_wordAt (wp_tx_wordAt_ok hD hq3) (by omega) (hD 34 (Nat.le_of_ble_eq_true rfl)) wt_L34 rfl rfl rfl (Nat.le_of_ble_eq_true rfl) (Nat.zero_le _) wp_rw_waysBehind_d27 (fun hbq3 => ?_)
    refine wt_istore hE [some (.ref (wt_ad (wt_xw X) 81)), some (.int x1), some (.int x2), some (.int x3), some (.int (x2 + (1 : Int32))), some (.int q3.1), none, none, none] wp_rw_waysBehind_d30 (Nat.le_of_ble_eq_true rfl) rfl ?_
    refine wt_iconst hE (0 : Int32) wp_rw_waysBehind_d32 wt_ci_0 ?_
    refine wt_istore hE [some (.ref (wt_ad (wt_xw X) 81)), some (.int x1), some (.int x2), some (.int x3), some (.int (x2 + (1 : Int32))), some (.int q3.1), some (.int (0 : Int32)), none, none] wp_rw_waysBehind_d33 (Nat.le_of_ble_eq_true rfl) rfl ?_
    refine wt_iconst hE (0 : Int32) wp_rw_waysBehind_d35 wt_ci_0 ?_
    refine wt_istore hE [some (.ref (wt_ad (wt_xw X) 81)), some (.int x1), some (.int x2), some (.int x3), some (.int (x2 + (1 : Int32))), some (.int q3.1), some (.int (0 : Int32)), some (.int (0 : Int32)), none] wp_rw_waysBehind_d36 (Nat.le_of_ble_eq_true rfl) rfl ?_
    refine wt_wk [true, true, false, true, true, true, true, true, true] rfl ?_
    exact wt_it_ind (fun z => wt_V X 0 z.2.2 38 [some (.ref (wt_ad (wt_xw X) 81)), some (.int x1), none, some (.int x3), some (.int (x2 + (1 : Int32))), some (.int q3.1), some (.int z.1), some (.int z.2.1), none] []) (fun K hK z h => wp_rw_waysBehind_B38_ok hE hR hD hK h) n ((0 : Int32), (0 : Int32), q3.2) h
  · have h := wt_in c2 h
    refine wt_iconst hE (1 : Int32) wp_rw_waysBehind_d18 wt_ci_1 ?_
    cases h
    exact wt_iret hE hR wp_rw_waysBehind_d19
def wb14m4_prog_4_method_5_code_r3 : List (List Nat) := [2, 182, 0, 81, 172] :: []
def wb14m4_prog_4_method_5_code_r2 : List (List Nat) := [29, 182, 0, 78, 21, 4, 96, 182, 0, 81, 184, 0, 85, 132, 4, 1, 167, 255, 210, 132, 2, 255, 167, 255, 187, 42, 27, 2] :: wb14m4_prog_4_method_5_code_r3
def wb14m4_prog_4_method_5_code_r1 : List (List Nat) := [21, 4, 42, 180, 0, 15, 29, 182, 0, 75, 162, 0, 39, 42, 180, 0, 31, 28, 8, 104, 21, 4, 96, 42, 27, 28, 42, 180, 0, 15] :: wb14m4_prog_4_method_5_code_r2
def wb14m4_prog_4_method_5_code_r0 : List (List Nat) := [42, 180, 0, 19, 27, 182, 0, 66, 4, 100, 61, 28, 155, 0, 71, 42, 180, 0, 19, 27, 28, 182, 0, 72, 62, 3, 54, 4] :: wb14m4_prog_4_method_5_code_r1
set_option maxRecDepth 100000 in
theorem wb14m4_prog_4_method_5_code_c0 : wt_cs prog_4_method_5_code 0 wb14m4_prog_4_method_5_code_r0 := wt_cs_of (by decide +kernel)
theorem wb14m4_prog_4_method_5_code_c1 : wt_cs prog_4_method_5_code 28 wb14m4_prog_4_method_5_code_r1 := wt_cs_tl (m := 28) wb14m4_prog_4_method_5_code_c0 rfl rfl
theorem wb14m4_prog_4_method_5_code_c2 : wt_cs prog_4_method_5_code 58 wb14m4_prog_4_method_5_code_r2 := wt_cs_tl (m := 30) wb14m4_prog_4_method_5_code_c1 rfl rfl
theorem wb14m4_prog_4_method_5_code_c3 : wt_cs prog_4_method_5_code 86 wb14m4_prog_4_method_5_code_r3 := wt_cs_tl (m := 28) wb14m4_prog_4_method_5_code_c2 rfl rfl
theorem wp_rw_howMany_d0 : decode prog_4_method_5_code 0 = .ok (.aload_n 0, 1) := wt_op42 wb14m4_prog_4_method_5_code_c0 0 rfl rfl
theorem wp_rw_howMany_d1 : decode prog_4_method_5_code 1 = .ok (.getfield 19, 3) := wt_op180 wb14m4_prog_4_method_5_code_c0 1 rfl rfl rfl
theorem wp_rw_howMany_d4 : decode prog_4_method_5_code 4 = .ok (.iload_n 1, 1) := wt_op27 wb14m4_prog_4_method_5_code_c0 4 rfl rfl
theorem wp_rw_howMany_d5 : decode prog_4_method_5_code 5 = .ok (.invokevirtual 66, 3) := wt_op182 wb14m4_prog_4_method_5_code_c0 5 rfl rfl rfl
theorem wp_rw_howMany_d8 : decode prog_4_method_5_code 8 = .ok (.iconst 1, 1) := wt_op4 wb14m4_prog_4_method_5_code_c0 8 rfl rfl
theorem wp_rw_howMany_d9 : decode prog_4_method_5_code 9 = .ok (.isub, 1) := wt_op100 wb14m4_prog_4_method_5_code_c0 9 rfl rfl
theorem wp_rw_howMany_d10 : decode prog_4_method_5_code 10 = .ok (.istore_n 2, 1) := wt_op61 wb14m4_prog_4_method_5_code_c0 10 rfl rfl
theorem wp_rw_howMany_d11 : decode prog_4_method_5_code 11 = .ok (.iload_n 2, 1) := wt_op28 wb14m4_prog_4_method_5_code_c0 11 rfl rfl
theorem wp_rw_howMany_d12 : decode prog_4_method_5_code 12 = .ok (.ifCond .lt 71, 3) := wt_op155 wb14m4_prog_4_method_5_code_c0 12 rfl rfl rfl
theorem wp_rw_howMany_d15 : decode prog_4_method_5_code 15 = .ok (.aload_n 0, 1) := wt_op42 wb14m4_prog_4_method_5_code_c0 15 rfl rfl
theorem wp_rw_howMany_d16 : decode prog_4_method_5_code 16 = .ok (.getfield 19, 3) := wt_op180 wb14m4_prog_4_method_5_code_c0 16 rfl rfl rfl
theorem wp_rw_howMany_d19 : decode prog_4_method_5_code 19 = .ok (.iload_n 1, 1) := wt_op27 wb14m4_prog_4_method_5_code_c0 19 rfl rfl
theorem wp_rw_howMany_d20 : decode prog_4_method_5_code 20 = .ok (.iload_n 2, 1) := wt_op28 wb14m4_prog_4_method_5_code_c0 20 rfl rfl
theorem wp_rw_howMany_d21 : decode prog_4_method_5_code 21 = .ok (.invokevirtual 72, 3) := wt_op182 wb14m4_prog_4_method_5_code_c0 21 rfl rfl rfl
theorem wp_rw_howMany_d24 : decode prog_4_method_5_code 24 = .ok (.istore_n 3, 1) := wt_op62 wb14m4_prog_4_method_5_code_c0 24 rfl rfl
theorem wp_rw_howMany_d25 : decode prog_4_method_5_code 25 = .ok (.iconst 0, 1) := wt_op3 wb14m4_prog_4_method_5_code_c0 25 rfl rfl
theorem wp_rw_howMany_d26 : decode prog_4_method_5_code 26 = .ok (.istore 4, 2) := wt_op54 wb14m4_prog_4_method_5_code_c0 26 rfl rfl
theorem wp_rw_howMany_d28 : decode prog_4_method_5_code 28 = .ok (.iload 4, 2) := wt_op21 wb14m4_prog_4_method_5_code_c1 0 rfl rfl
theorem wp_rw_howMany_d30 : decode prog_4_method_5_code 30 = .ok (.aload_n 0, 1) := wt_op42 wb14m4_prog_4_method_5_code_c1 2 rfl rfl
theorem wp_rw_howMany_d31 : decode prog_4_method_5_code 31 = .ok (.getfield 15, 3) := wt_op180 wb14m4_prog_4_method_5_code_c1 3 rfl rfl rfl
theorem wp_rw_howMany_d34 : decode prog_4_method_5_code 34 = .ok (.iload_n 3, 1) := wt_op29 wb14m4_prog_4_method_5_code_c1 6 rfl rfl
theorem wp_rw_howMany_d35 : decode prog_4_method_5_code 35 = .ok (.invokevirtual 75, 3) := wt_op182 wb14m4_prog_4_method_5_code_c1 7 rfl rfl rfl
theorem wp_rw_howMany_d38 : decode prog_4_method_5_code 38 = .ok (.if_icmp .ge 39, 3) := wt_op162 wb14m4_prog_4_method_5_code_c1 10 rfl rfl rfl
theorem wp_rw_howMany_d41 : decode prog_4_method_5_code 41 = .ok (.aload_n 0, 1) := wt_op42 wb14m4_prog_4_method_5_code_c1 13 rfl rfl
theorem wp_rw_howMany_d42 : decode prog_4_method_5_code 42 = .ok (.getfield 31, 3) := wt_op180 wb14m4_prog_4_method_5_code_c1 14 rfl rfl rfl
theorem wp_rw_howMany_d45 : decode prog_4_method_5_code 45 = .ok (.iload_n 2, 1) := wt_op28 wb14m4_prog_4_method_5_code_c1 17 rfl rfl
theorem wp_rw_howMany_d46 : decode prog_4_method_5_code 46 = .ok (.iconst 5, 1) := wt_op8 wb14m4_prog_4_method_5_code_c1 18 rfl rfl
theorem wp_rw_howMany_d47 : decode prog_4_method_5_code 47 = .ok (.imul, 1) := wt_op104 wb14m4_prog_4_method_5_code_c1 19 rfl rfl
theorem wp_rw_howMany_d48 : decode prog_4_method_5_code 48 = .ok (.iload 4, 2) := wt_op21 wb14m4_prog_4_method_5_code_c1 20 rfl rfl
theorem wp_rw_howMany_d50 : decode prog_4_method_5_code 50 = .ok (.iadd, 1) := wt_op96 wb14m4_prog_4_method_5_code_c1 22 rfl rfl
theorem wp_rw_howMany_d51 : decode prog_4_method_5_code 51 = .ok (.aload_n 0, 1) := wt_op42 wb14m4_prog_4_method_5_code_c1 23 rfl rfl
theorem wp_rw_howMany_d52 : decode prog_4_method_5_code 52 = .ok (.iload_n 1, 1) := wt_op27 wb14m4_prog_4_method_5_code_c1 24 rfl rfl
theorem wp_rw_howMany_d53 : decode prog_4_method_5_code 53 = .ok (.iload_n 2, 1) := wt_op28 wb14m4_prog_4_method_5_code_c1 25 rfl rfl
theorem wp_rw_howMany_d54 : decode prog_4_method_5_code 54 = .ok (.aload_n 0, 1) := wt_op42 wb14m4_prog_4_method_5_code_c1 26 rfl rfl
theorem wp_rw_howMany_d55 : decode prog_4_method_5_code 55 = .ok (.getfield 15, 3) := wt_op180 wb14m4_prog_4_method_5_code_c1 27 rfl rfl rfl
theorem wp_rw_howMany_d58 : decode prog_4_method_5_code 58 = .ok (.iload_n 3, 1) := wt_op29 wb14m4_prog_4_method_5_code_c2 0 rfl rfl
theorem wp_rw_howMany_d59 : decode prog_4_method_5_code 59 = .ok (.invokevirtual 78, 3) := wt_op182 wb14m4_prog_4_method_5_code_c2 1 rfl rfl rfl
theorem wp_rw_howMany_d62 : decode prog_4_method_5_code 62 = .ok (.iload 4, 2) := wt_op21 wb14m4_prog_4_method_5_code_c2 4 rfl rfl
theorem wp_rw_howMany_d64 : decode prog_4_method_5_code 64 = .ok (.iadd, 1) := wt_op96 wb14m4_prog_4_method_5_code_c2 6 rfl rfl
theorem wp_rw_howMany_d65 : decode prog_4_method_5_code 65 = .ok (.invokevirtual 81, 3) := wt_op182 wb14m4_prog_4_method_5_code_c2 7 rfl rfl rfl
theorem wp_rw_howMany_d68 : decode prog_4_method_5_code 68 = .ok (.invokestatic 85, 3) := wt_op184 wb14m4_prog_4_method_5_code_c2 10 rfl rfl rfl
theorem wp_rw_howMany_d71 : decode prog_4_method_5_code 71 = .ok (.iinc 4 1, 3) := wt_op132 wb14m4_prog_4_method_5_code_c2 13 rfl rfl rfl
theorem wp_rw_howMany_d74 : decode prog_4_method_5_code 74 = .ok (.goto (-46), 3) := wt_op167 wb14m4_prog_4_method_5_code_c2 16 rfl rfl rfl
theorem wp_rw_howMany_d77 : decode prog_4_method_5_code 77 = .ok (.iinc 2 (-1), 3) := wt_op132 wb14m4_prog_4_method_5_code_c2 19 rfl rfl rfl
theorem wp_rw_howMany_d80 : decode prog_4_method_5_code 80 = .ok (.goto (-69), 3) := wt_op167 wb14m4_prog_4_method_5_code_c2 22 rfl rfl rfl
theorem wp_rw_howMany_d83 : decode prog_4_method_5_code 83 = .ok (.aload_n 0, 1) := wt_op42 wb14m4_prog_4_method_5_code_c2 25 rfl rfl
theorem wp_rw_howMany_d84 : decode prog_4_method_5_code 84 = .ok (.iload_n 1, 1) := wt_op27 wb14m4_prog_4_method_5_code_c2 26 rfl rfl
theorem wp_rw_howMany_d85 : decode prog_4_method_5_code 85 = .ok (.iconst (-1), 1) := wt_op2 wb14m4_prog_4_method_5_code_c2 27 rfl rfl
theorem wp_rw_howMany_d86 : decode prog_4_method_5_code 86 = .ok (.iconst (-1), 1) := wt_op2 wb14m4_prog_4_method_5_code_c3 0 rfl rfl
theorem wp_rw_howMany_d87 : decode prog_4_method_5_code 87 = .ok (.invokevirtual 81, 3) := wt_op182 wb14m4_prog_4_method_5_code_c3 1 rfl rfl rfl
theorem wp_rw_howMany_d90 : decode prog_4_method_5_code 90 = .ok (.ireturn, 1) := wt_op172 wb14m4_prog_4_method_5_code_c3 4 rfl rfl
noncomputable def wp_rw_howMany_B28 (n : Nat) (x1 : Int32) (x2 : Int32) (x3 : Int32) (K11 : Int32 × wt_St → Option (Int32 × wt_St)) (K28 : Int32 × wt_St → Option (Int32 × wt_St)) (s : Int32 × wt_St) : Option (Int32 × wt_St) :=
  (wp_tg_membersLike n 20 x3 s.2).bind fun q5 =>
  if q5.1 ≤ s.1 then
    K11 ((x2 + (-1 : Int32)), q5.2)
  else
    (wp_tg_firstLike n 20 x3 q5.2).bind fun q7 =>
    (wp_rw_waysBehind n x1 x2 (q7.1 + s.1) q7.2).bind fun q8 =>
    (wp_ap_put n 82 ((x2 * (5 : Int32)) + s.1) q8.1 q8.2).bind fun q9 =>
    K28 ((s.1 + (1 : Int32)), q9)
set_option maxRecDepth 100000 in
set_option maxHeartbeats 4000000 in
theorem wp_rw_howMany_B28_ok  {x1 : Int32} {x2 : Int32} {x3 : Int32} {X : wt_X} {n : Nat} {res : Int32 × wt_St} (hE : wt_Ok X prog_4_method_5_code 5 "WornType$Rows" 5 0) (hR : wt_Rt X (some .int) (some res.1) res.2) (hD : ∀ i, i < 108 → wt_dom (wt_xw X) i)  {K11 : Int32 × wt_St → Option (Int32 × wt_St)} (hK11 : ∀ s : Int32 × wt_St, K11 s = some res → wt_V X 0 s.2 11 [some (.ref (wt_ad (wt_xw X) 81)), some (.int x1), some (.int s.1), none, none] []) {K28 : Int32 × wt_St → Option (Int32 × wt_St)} (hK28 : ∀ s : Int32 × wt_St, K28 s = some res → wt_V X 0 s.2 28 [some (.ref (wt_ad (wt_xw X) 81)), some (.int x1), some (.int x2), some (.int x3), some (.int s.1)] []) {s : Int32 × wt_St} (h : wp_rw_howMany_B28 n x1 x2 x3 K11 K28 s = some res) : wt_V X 0 s.2 28 [some (.ref (wt_ad (wt_xw X) 81)), some (.int x1), some (.int x2), some (.int x3), some (.int s.1)] [] := by
  unfold wp_rw_howMany_B28 at h
  refine wt_iload hE wp_rw_howMany_d28 rfl ?_
  refine wt_aload_n hE wp_rw_howMany_d30 rfl ?_
  refine wt_getr hE (r := 20) wt_lf_rw_15 (hD 81 (Nat.le_of_ble_eq_true rfl)) wt_L81 rfl wp_rw_howMany_d31 ?_
  refine wt_iload_n hE wp_rw_howMany_d34 rfl ?_
  obtain ⟨q5, hq5, h⟩ := wt_bi h
  refine wt_callVi hE [.int x3] wt_lm_rw_75 wt_ya_tg_membersLike (wp_tg_membersLike_ok wt_isTongue_20 (fun j hj => hD (20 + j) (by omega)) hq5) (by omega) (hD 20 (Nat.le_of_ble_eq_true rfl)) wt_L20 rfl rfl rfl (Nat.le_of_ble_eq_true rfl) (Nat.zero_le _) wp_rw_howMany_d35 (fun hbq5 => ?_)
  refine wt_icmp_ge hE 77 wp_rw_howMany_d38 rfl (fun c6 => ?_) (fun c6 => ?_)
  · have h := wt_ip c6 h
    refine wt_iinc hE (x2 + (-1 : Int32)) [some (.ref (wt_ad (wt_xw X) 81)), some (.int x1), some (.int (x2 + (-1 : Int32))), some (.int x3), some (.int s.1)] wp_rw_howMany_d77 (by decide) rfl rfl rfl ?_
    refine wt_goto hE 11 wp_rw_howMany_d80 rfl ?_
    refine wt_wk [true, true, true, false, false] rfl ?_
    exact hK11 ((x2 + (-1 : Int32)), q5.2) h
  · have h := wt_in c6 h
    refine wt_aload_n hE wp_rw_howMany_d41 rfl ?_
    refine wt_getr hE (r := 82) wt_lf_rw_31 (hD 81 (Nat.le_of_ble_eq_true rfl)) wt_L81 rfl wp_rw_howMany_d42 ?_
    refine wt_iload_n hE wp_rw_howMany_d45 rfl ?_
    refine wt_iconst hE (5 : Int32) wp_rw_howMany_d46 wt_ci_5 ?_
    refine wt_imul hE wp_rw_howMany_d47 ?_
    refine wt_iload hE wp_rw_howMany_d48 rfl ?_
    refine wt_iadd hE wp_rw_howMany_d50 ?_
    refine wt_aload_n hE wp_rw_howMany_d51 rfl ?_
    refine wt_iload_n hE wp_rw_howMany_d52 rfl ?_
    refine wt_iload_n hE wp_rw_howMany_d53 rfl ?_
    refine wt_aload_n hE wp_rw_howMany_d54 rfl ?_
    refine wt_getr hE (r := 20) wt_lf_rw_15 (hD 81 (Nat.le_of_ble_eq_true rfl)) wt_L81 rfl wp_rw_howMany_d55 ?_
    refine wt_iload_n hE wp_rw_howMany_d58 rfl ?_
    obtain ⟨q7, hq7, h⟩ := wt_bi h
    refine wt_callVi hE [.int x3] wt_lm_rw_78 wt_ya_tg_firstLike (wp_tg_firstLike_ok wt_isTongue_20 (fun j hj => hD (20 + j) (by omega)) hq7) (by omega) (hD 20 (Nat.le_of_ble_eq_true rfl)) wt_L20 rfl rfl rfl (Nat.le_of_ble_eq_true rfl) (Nat.zero_le _) wp_rw_howMany_d59 (fun hbq7 => ?_)
    refine wt_iload hE wp_rw_howMany_d62 rfl ?_
    refine wt_iadd hE wp_rw_howMany_d64 ?_
    obtain ⟨q8, hq8, h⟩ := wt_bi h
    refine wt_callVi hE [.int x1, .int x2, .int (q7.1 + s.1)] wt_lm_rw_81 wt_ya_rw_waysBehind (wp_rw_waysBehind_ok hD hq8) (by omega) (hD 81 (Nat.le_of_ble_eq_true rfl)) wt_L81 rfl rfl rfl (Nat.le_of_ble_eq_true rfl) (Nat.zero_le _) wp_rw_howMany_d65 (fun hbq8 => ?_)
    obtain ⟨q9, hq9, h⟩ := wt_bi h
    refine wt_callSv hE [.ref (wt_ad (wt_xw X) 82), .int ((x2 * (5 : Int32)) + s.1), .int q8.1] wt_lm_rw_85 wt_ya_ap_put (wp_ap_put_ok (wt_lnE wt_L82) (hD 82 (Nat.le_of_ble_eq_true rfl)) hq9) (by omega) rfl rfl (Nat.le_of_ble_eq_true rfl) (Nat.zero_le _) wp_rw_howMany_d68 ?_
    refine wt_iinc hE (s.1 + (1 : Int32)) [some (.ref (wt_ad (wt_xw X) 81)), some (.int x1), some (.int x2), some (.int x3), some (.int (s.1 + (1 : Int32)))] wp_rw_howMany_d71 (by decide) rfl rfl rfl ?_
    refine wt_goto hE 28 wp_rw_howMany_d74 rfl ?_
    exact hK28 ((s.1 + (1 : Int32)), q9) h
noncomputable def wp_rw_howMany_B11 (n : Nat) (x1 : Int32) (K11 : Int32 × wt_St → Option (Int32 × wt_St)) (s : Int32 × wt_St) : Option (Int32 × wt_St) :=
  if s.1 < 0 then
    (wp_rw_waysBehind n x1 (-1 : Int32) (-1 : Int32) s.2).bind fun q3 =>
    some (q3.1, q3.2)
  else
    (wp_tx_wordAt n x1 s.1 s.2).bind fun q4 =>
    wt_it (wp_rw_howMany_B28 n x1 s.1 q4.1 K11) n ((0 : Int32), q4.2)
set_option maxRecDepth 100000 in
set_option maxHeartbeats 4000000 in
theorem wp_rw_howMany_B11_ok  {x1 : Int32} {X : wt_X} {n : Nat} {res : Int32 × wt_St} (hE : wt_Ok X prog_4_method_5_code 5 "WornType$Rows" 5 0) (hR : wt_Rt X (some .int) (some res.1) res.2) (hD : ∀ i, i < 108 → wt_dom (wt_xw X) i)  {K11 : Int32 × wt_St → Option (Int32 × wt_St)} (hK11 : ∀ s : Int32 × wt_St, K11 s = some res → wt_V X 0 s.2 11 [some (.ref (wt_ad (wt_xw X) 81)), some (.int x1), some (.int s.1), none, none] []) {s : Int32 × wt_St} (h : wp_rw_howMany_B11 n x1 K11 s = some res) : wt_V X 0 s.2 11 [some (.ref (wt_ad (wt_xw X) 81)), some (.int x1), some (.int s.1), none, none] [] := by
  unfold wp_rw_howMany_B11 at h
  refine wt_iload_n hE wp_rw_howMany_d11 rfl ?_
  refine wt_if_lt hE 83 wp_rw_howMany_d12 rfl (fun c2 => ?_) (fun c2 => ?_)
  · have h := wt_ip c2 h
    refine wt_aload_n hE wp_rw_howMany_d83 rfl ?_
    refine wt_iload_n hE wp_rw_howMany_d84 rfl ?_
    refine wt_iconst hE (-1 : Int32) wp_rw_howMany_d85 wt_ci_m1 ?_
    refine wt_iconst hE (-1 : Int32) wp_rw_howMany_d86 wt_ci_m1 ?_
    obtain ⟨q3, hq3, h⟩ := wt_bi h
    refine wt_callVi hE [.int x1, .int (-1 : Int32), .int (-1 : Int32)] wt_lm_rw_81 wt_ya_rw_waysBehind (wp_rw_waysBehind_ok hD hq3) (by omega) (hD 81 (Nat.le_of_ble_eq_true rfl)) wt_L81 rfl rfl rfl (Nat.le_of_ble_eq_true rfl) (Nat.zero_le _) wp_rw_howMany_d87 (fun hbq3 => ?_)
    cases h
    exact wt_iret hE hR wp_rw_howMany_d90
  · have h := wt_in c2 h
    refine wt_aload_n hE wp_rw_howMany_d15 rfl ?_
    refine wt_getr hE (r := 34) wt_lf_rw_19 (hD 81 (Nat.le_of_ble_eq_true rfl)) wt_L81 rfl wp_rw_howMany_d16 ?_
    refine wt_iload_n hE wp_rw_howMany_d19 rfl ?_
    refine wt_iload_n hE wp_rw_howMany_d20 rfl ?_
    obtain ⟨q4, hq4, h⟩ := wt_bi h
    refine wt_callVi hE [.int x1, .int s.1] wt_lm_rw_72 wt_ya_tx_wordAt (wp_tx_wordAt_ok hD hq4) (by omega) (hD 34 (Nat.le_of_ble_eq_true rfl)) wt_L34 rfl rfl rfl (Nat.le_of_ble_eq_true rfl) (Nat.zero_le _) wp_rw_howMany_d21 (fun hbq4 => ?_)
    refine wt_istore_n hE [some (.ref (wt_ad (wt_xw X) 81)), some (.int x1), some (.int s.1), some (.int q4.1), none] wp_rw_howMany_d24 (by decide) rfl ?_
    refine wt_iconst hE (0 : Int32) wp_rw_howMany_d25 wt_ci_0 ?_
    refine wt_istore hE [some (.ref (wt_ad (wt_xw X) 81)), some (.int x1), some (.int s.1), some (.int q4.1), some (.int (0 : Int32))] wp_rw_howMany_d26 (Nat.le_of_ble_eq_true rfl) rfl ?_
    exact wt_it_ind (fun z => wt_V X 0 z.2 28 [some (.ref (wt_ad (wt_xw X) 81)), some (.int x1), some (.int s.1), some (.int q4.1), some (.int z.1)] []) (fun K hK z h => wp_rw_howMany_B28_ok hE hR hD hK11 hK h) n ((0 : Int32), q4.2) h
noncomputable def wp_rw_howMany (n : Nat) (x1 : Int32) (σ : wt_St) : Option (Int32 × wt_St) :=
  (wp_tx_lengthOf n x1 σ).bind fun q1 =>
  wt_it (wp_rw_howMany_B11 n x1) n ((q1.1 - (1 : Int32)), q1.2)
set_option maxRecDepth 100000 in
set_option maxHeartbeats 4000000 in
theorem wp_rw_howMany_ok {l : Launch} {w : wt_E} {n : Nat} {x1 : Int32} (hD : ∀ i, i < 108 → wt_dom w i) {σ : wt_St} {q : Int32 × wt_St} (h : wp_rw_howMany n x1 σ = some q) : wt_Ctr l w wt_y_rw_howMany prog_4_method_5_code 5 (some .int) 5 [.ref (wt_ad w 81), .int x1] σ (some q.1) q.2 := by
  refine wt_ctr wt_pl_rw_howMany rfl (Nat.le_of_ble_eq_true rfl) [some (.ref (wt_ad w 81)), some (.int x1), none, none, none] rfl ?_
  intro X hXl hXw hE hR
  subst hXl
  subst hXw
  have hE : wt_Ok X prog_4_method_5_code 5 "WornType$Rows" 5 0 := hE
  unfold wp_rw_howMany at h
  refine wt_aload_n hE wp_rw_howMany_d0 rfl ?_
  refine wt_getr hE (r := 34) wt_lf_rw_19 (hD 81 (Nat.le_of_ble_eq_true rfl)) wt_L81 rfl wp_rw_howMany_d1 ?_
  refine wt_iload_n hE wp_rw_howMany_d4 rfl ?_
  obtain ⟨q1, hq1, h⟩ := wt_bi h
  refine wt_callVi hE [.int x1] wt_lm_rw_66 wt_ya_tx_lengthOf (wp_tx_lengthOf_ok hD hq1) (by omega) (hD 34 (Nat.le_of_ble_eq_true rfl)) wt_L34 rfl rfl rfl (Nat.le_of_ble_eq_true rfl) (Nat.zero_le _) wp_rw_howMany_d5 (fun hbq1 => ?_)
  refine wt_iconst hE (1 : Int32) wp_rw_howMany_d8 wt_ci_1 ?_
  refine wt_isub hE wp_rw_howMany_d9 ?_
  refine wt_istore_n hE [some (.ref (wt_ad (wt_xw X) 81)), some (.int x1), some (.int (q1.1 - (1 : Int32))), none, none] wp_rw_howMany_d10 (by decide) rfl ?_
  exact wt_it_ind (fun z => wt_V X 0 z.2 11 [some (.ref (wt_ad (wt_xw X) 81)), some (.int x1), some (.int z.1), none, none] []) (fun K hK z h => wp_rw_howMany_B11_ok hE hR hD hK h) n ((q1.1 - (1 : Int32)), q1.2) h
def wb14m4_prog_13_method_23_code_r0 : List (List Nat) := [3, 60, 3, 61, 28, 16, 26, 162, 0, 18, 27, 42, 180, 0, 20, 28, 46, 96, 60, 132, 2, 1, 167, 255, 238, 27, 172] :: []
set_option maxRecDepth 100000 in
theorem wb14m4_prog_13_method_23_code_c0 : wt_cs prog_13_method_23_code 0 wb14m4_prog_13_method_23_code_r0 := wt_cs_of (by decide +kernel)
theorem wp_md_allPieces_d0 : decode prog_13_method_23_code 0 = .ok (.iconst 0, 1) := wt_op3 wb14m4_prog_13_method_23_code_c0 0 rfl rfl
theorem wp_md_allPieces_d1 : decode prog_13_method_23_code 1 = .ok (.istore_n 1, 1) := wt_op60 wb14m4_prog_13_method_23_code_c0 1 rfl rfl
theorem wp_md_allPieces_d2 : decode prog_13_method_23_code 2 = .ok (.iconst 0, 1) := wt_op3 wb14m4_prog_13_method_23_code_c0 2 rfl rfl
theorem wp_md_allPieces_d3 : decode prog_13_method_23_code 3 = .ok (.istore_n 2, 1) := wt_op61 wb14m4_prog_13_method_23_code_c0 3 rfl rfl
theorem wp_md_allPieces_d4 : decode prog_13_method_23_code 4 = .ok (.iload_n 2, 1) := wt_op28 wb14m4_prog_13_method_23_code_c0 4 rfl rfl
theorem wp_md_allPieces_d5 : decode prog_13_method_23_code 5 = .ok (.bipush 26, 2) := wt_op16 wb14m4_prog_13_method_23_code_c0 5 rfl rfl rfl
theorem wp_md_allPieces_d7 : decode prog_13_method_23_code 7 = .ok (.if_icmp .ge 18, 3) := wt_op162 wb14m4_prog_13_method_23_code_c0 7 rfl rfl rfl
theorem wp_md_allPieces_d10 : decode prog_13_method_23_code 10 = .ok (.iload_n 1, 1) := wt_op27 wb14m4_prog_13_method_23_code_c0 10 rfl rfl
theorem wp_md_allPieces_d11 : decode prog_13_method_23_code 11 = .ok (.aload_n 0, 1) := wt_op42 wb14m4_prog_13_method_23_code_c0 11 rfl rfl
theorem wp_md_allPieces_d12 : decode prog_13_method_23_code 12 = .ok (.getfield 20, 3) := wt_op180 wb14m4_prog_13_method_23_code_c0 12 rfl rfl rfl
theorem wp_md_allPieces_d15 : decode prog_13_method_23_code 15 = .ok (.iload_n 2, 1) := wt_op28 wb14m4_prog_13_method_23_code_c0 15 rfl rfl
theorem wp_md_allPieces_d16 : decode prog_13_method_23_code 16 = .ok (.iaload, 1) := wt_op46 wb14m4_prog_13_method_23_code_c0 16 rfl rfl
theorem wp_md_allPieces_d17 : decode prog_13_method_23_code 17 = .ok (.iadd, 1) := wt_op96 wb14m4_prog_13_method_23_code_c0 17 rfl rfl
theorem wp_md_allPieces_d18 : decode prog_13_method_23_code 18 = .ok (.istore_n 1, 1) := wt_op60 wb14m4_prog_13_method_23_code_c0 18 rfl rfl
theorem wp_md_allPieces_d19 : decode prog_13_method_23_code 19 = .ok (.iinc 2 1, 3) := wt_op132 wb14m4_prog_13_method_23_code_c0 19 rfl rfl rfl
theorem wp_md_allPieces_d22 : decode prog_13_method_23_code 22 = .ok (.goto (-18), 3) := wt_op167 wb14m4_prog_13_method_23_code_c0 22 rfl rfl rfl
theorem wp_md_allPieces_d25 : decode prog_13_method_23_code 25 = .ok (.iload_n 1, 1) := wt_op27 wb14m4_prog_13_method_23_code_c0 25 rfl rfl
theorem wp_md_allPieces_d26 : decode prog_13_method_23_code 26 = .ok (.ireturn, 1) := wt_op172 wb14m4_prog_13_method_23_code_c0 26 rfl rfl
noncomputable def wp_md_allPieces_B4 (n : Nat) (K4 : Int32 × Int32 × wt_St → Option (Int32 × wt_St)) (s : Int32 × Int32 × wt_St) : Option (Int32 × wt_St) :=
  if (26 : Int32) ≤ s.2.1 then
    some (s.1, s.2.2)
  else
    if s.2.1 < 0 ∨ 26 ≤ Int32.toNatClampNeg s.2.1 then none else
    K4 ((s.1 + (wt_ga s.2.2 111 (Int32.toNatClampNeg s.2.1))), (s.2.1 + (1 : Int32)), s.2.2)
set_option maxRecDepth 100000 in
set_option maxHeartbeats 4000000 in
theorem wp_md_allPieces_B4_ok  {X : wt_X} {n : Nat} {res : Int32 × wt_St} (hE : wt_Ok X prog_13_method_23_code 3 "WornTypeModel" 0 0) (hR : wt_Rt X (some .int) (some res.1) res.2) (hD : ∀ i, 108 ≤ i → i < 321 → wt_dom (wt_xw X) i)  {K4 : Int32 × Int32 × wt_St → Option (Int32 × wt_St)} (hK4 : ∀ s : Int32 × Int32 × wt_St, K4 s = some res → wt_V X 0 s.2.2 4 [some (.ref (wt_ad (wt_xw X) 108)), some (.int s.1), some (.int s.2.1)] []) {s : Int32 × Int32 × wt_St} (h : wp_md_allPieces_B4 n K4 s = some res) : wt_V X 0 s.2.2 4 [some (.ref (wt_ad (wt_xw X) 108)), some (.int s.1), some (.int s.2.1)] [] := by
  unfold wp_md_allPieces_B4 at h
  refine wt_iload_n hE wp_md_allPieces_d4 rfl ?_
  refine wt_bipush hE (26 : Int32) wp_md_allPieces_d5 wt_cb_26 ?_
  refine wt_icmp_ge hE 25 wp_md_allPieces_d7 rfl (fun c1 => ?_) (fun c1 => ?_)
  · have h := wt_ip c1 h
    refine wt_iload_n hE wp_md_allPieces_d25 rfl ?_
    cases h
    exact wt_iret hE hR wp_md_allPieces_d26
  · have h := wt_in c1 h
    refine wt_iload_n hE wp_md_allPieces_d10 rfl ?_
    refine wt_aload_n hE wp_md_allPieces_d11 rfl ?_
    refine wt_getr hE (r := 111) wt_lf_md_20 (hD 108 (by decide) (by decide)) wt_L108 rfl wp_md_allPieces_d12 ?_
    refine wt_iload_n hE wp_md_allPieces_d15 rfl ?_
    obtain ⟨g2, h⟩ := wt_gd h
    refine wt_iald hE (hD 111 (by decide) (by decide)) wt_L111 g2 wp_md_allPieces_d16 ?_
    refine wt_iadd hE wp_md_allPieces_d17 ?_
    refine wt_istore_n hE [some (.ref (wt_ad (wt_xw X) 108)), some (.int (s.1 + (wt_ga s.2.2 111 (Int32.toNatClampNeg s.2.1)))), some (.int s.2.1)] wp_md_allPieces_d18 (by decide) rfl ?_
    refine wt_iinc hE (s.2.1 + (1 : Int32)) [some (.ref (wt_ad (wt_xw X) 108)), some (.int (s.1 + (wt_ga s.2.2 111 (Int32.toNatClampNeg s.2.1)))), some (.int (s.2.1 + (1 : Int32)))] wp_md_allPieces_d19 (by decide) rfl rfl rfl ?_
    refine wt_goto hE 4 wp_md_allPieces_d22 rfl ?_
    exact hK4 ((s.1 + (wt_ga s.2.2 111 (Int32.toNatClampNeg s.2.1))), (s.2.1 + (1 : Int32)), s.2.2) h
noncomputable def wp_md_allPieces (n : Nat) (σ : wt_St) : Option (Int32 × wt_St) :=
  wt_it (wp_md_allPieces_B4 n) n ((0 : Int32), (0 : Int32), σ)
set_option maxRecDepth 100000 in
set_option maxHeartbeats 4000000 in
theorem wp_md_allPieces_ok {l : Launch} {w : wt_E} {n : Nat} (hD : ∀ i, 108 ≤ i → i < 321 → wt_dom w i) {σ : wt_St} {q : Int32 × wt_St} (h : wp_md_allPieces n σ = some q) : wt_Ctr l w wt_y_md_allPieces prog_13_method_23_code 3 (some .int) 0 [.ref (wt_ad w 108)] σ (some q.1) q.2 := by
  refine wt_ctr wt_pl_md_allPieces rfl (Nat.le_of_ble_eq_true rfl) [some (.ref (wt_ad w 108)), none, none] rfl ?_
  intro X hXl hXw hE hR
  subst hXl
  subst hXw
  have hE : wt_Ok X prog_13_method_23_code 3 "WornTypeModel" 0 0 := hE
  unfold wp_md_allPieces at h
  refine wt_iconst hE (0 : Int32) wp_md_allPieces_d0 wt_ci_0 ?_
  refine wt_istore_n hE [some (.ref (wt_ad (wt_xw X) 108)), some (.int (0 : Int32)), none] wp_md_allPieces_d1 (by decide) rfl ?_
  refine wt_iconst hE (0 : Int32) wp_md_allPieces_d2 wt_ci_0 ?_
  refine wt_istore_n hE [some (.ref (wt_ad (wt_xw X) 108)), some (.int (0 : Int32)), some (.int (0 : Int32))] wp_md_allPieces_d3 (by decide) rfl ?_
  exact wt_it_ind (fun z => wt_V X 0 z.2.2 4 [some (.ref (wt_ad (wt_xw X) 108)), some (.int z.1), some (.int z.2.1)] []) (fun K hK z h => wp_md_allPieces_B4_ok hE hR hD hK h) n ((0 : Int32), (0 : Int32), σ) h
def wb14m4_prog_13_method_3_code_r1 : List (List Nat) := [172] :: []
def wb14m4_prog_13_method_3_code_r0 : List (List Nat) := [27, 153, 0, 15, 42, 180, 0, 151, 154, 0, 8, 42, 28, 181, 0, 151, 42, 180, 0, 151, 153, 0, 7, 4, 167, 0, 4, 3] :: wb14m4_prog_13_method_3_code_r1
set_option maxRecDepth 100000 in
theorem wb14m4_prog_13_method_3_code_c0 : wt_cs prog_13_method_3_code 0 wb14m4_prog_13_method_3_code_r0 := wt_cs_of (by decide +kernel)
theorem wb14m4_prog_13_method_3_code_c1 : wt_cs prog_13_method_3_code 28 wb14m4_prog_13_method_3_code_r1 := wt_cs_tl (m := 28) wb14m4_prog_13_method_3_code_c0 rfl rfl
theorem wp_md_bad_d0 : decode prog_13_method_3_code 0 = .ok (.iload_n 1, 1) := wt_op27 wb14m4_prog_13_method_3_code_c0 0 rfl rfl
theorem wp_md_bad_d1 : decode prog_13_method_3_code 1 = .ok (.ifCond .eq 15, 3) := wt_op153 wb14m4_prog_13_method_3_code_c0 1 rfl rfl rfl
theorem wp_md_bad_d4 : decode prog_13_method_3_code 4 = .ok (.aload_n 0, 1) := wt_op42 wb14m4_prog_13_method_3_code_c0 4 rfl rfl
theorem wp_md_bad_d5 : decode prog_13_method_3_code 5 = .ok (.getfield 151, 3) := wt_op180 wb14m4_prog_13_method_3_code_c0 5 rfl rfl rfl
theorem wp_md_bad_d8 : decode prog_13_method_3_code 8 = .ok (.ifCond .ne 8, 3) := wt_op154 wb14m4_prog_13_method_3_code_c0 8 rfl rfl rfl
theorem wp_md_bad_d11 : decode prog_13_method_3_code 11 = .ok (.aload_n 0, 1) := wt_op42 wb14m4_prog_13_method_3_code_c0 11 rfl rfl
theorem wp_md_bad_d12 : decode prog_13_method_3_code 12 = .ok (.iload_n 2, 1) := wt_op28 wb14m4_prog_13_method_3_code_c0 12 rfl rfl
theorem wp_md_bad_d13 : decode prog_13_method_3_code 13 = .ok (.putfield 151, 3) := wt_op181 wb14m4_prog_13_method_3_code_c0 13 rfl rfl rfl
theorem wp_md_bad_d16 : decode prog_13_method_3_code 16 = .ok (.aload_n 0, 1) := wt_op42 wb14m4_prog_13_method_3_code_c0 16 rfl rfl
theorem wp_md_bad_d17 : decode prog_13_method_3_code 17 = .ok (.getfield 151, 3) := wt_op180 wb14m4_prog_13_method_3_code_c0 17 rfl rfl rfl
theorem wp_md_bad_d20 : decode prog_13_method_3_code 20 = .ok (.ifCond .eq 7, 3) := wt_op153 wb14m4_prog_13_method_3_code_c0 20 rfl rfl rfl
theorem wp_md_bad_d23 : decode prog_13_method_3_code 23 = .ok (.iconst 1, 1) := wt_op4 wb14m4_prog_13_method_3_code_c0 23 rfl rfl
theorem wp_md_bad_d24 : decode prog_13_method_3_code 24 = .ok (.goto 4, 3) := wt_op167 wb14m4_prog_13_method_3_code_c0 24 rfl rfl rfl
theorem wp_md_bad_d27 : decode prog_13_method_3_code 27 = .ok (.iconst 0, 1) := wt_op3 wb14m4_prog_13_method_3_code_c0 27 rfl rfl
theorem wp_md_bad_d28 : decode prog_13_method_3_code 28 = .ok (.ireturn, 1) := wt_op172 wb14m4_prog_13_method_3_code_c1 0 rfl rfl
noncomputable def wp_md_bad_B16 (n : Nat) (σ : wt_St) : Option (Int32 × wt_St) :=
  if (wt_gf σ 108 0) = 0 then
    some ((0 : Int32), σ)
  else
    some ((1 : Int32), σ)
set_option maxRecDepth 100000 in
set_option maxHeartbeats 4000000 in
theorem wp_md_bad_B16_ok  {X : wt_X} {n : Nat} {res : Int32 × wt_St} (hE : wt_Ok X prog_13_method_3_code 3 "WornTypeModel" 0 0) (hR : wt_Rt X (some .boolean) (some res.1) res.2) (hD : ∀ i, 108 ≤ i → i < 321 → wt_dom (wt_xw X) i)  {σ : wt_St} (h : wp_md_bad_B16 n σ = some res) : wt_V X 0 σ 16 [some (.ref (wt_ad (wt_xw X) 108)), none, none] [] := by
  unfold wp_md_bad_B16 at h
  refine wt_aload_n hE wp_md_bad_d16 rfl ?_
  refine wt_geti hE wt_lf_md_151 (hD 108 (by decide) (by decide)) wt_L108 rfl wp_md_bad_d17 ?_
  refine wt_if_eq hE 27 wp_md_bad_d20 rfl (fun c2 => ?_) (fun c2 => ?_)
  · have h := wt_ip c2 h
    refine wt_iconst hE (0 : Int32) wp_md_bad_d27 wt_ci_0 ?_
    cases h
    exact wt_zret hE (by decide) hR wp_md_bad_d28
  · have h := wt_in c2 h
    refine wt_iconst hE (1 : Int32) wp_md_bad_d23 wt_ci_1 ?_
    refine wt_goto hE 28 wp_md_bad_d24 rfl ?_
    cases h
    exact wt_zret hE (by decide) hR wp_md_bad_d28
noncomputable def wp_md_bad (n : Nat) (x1 : Int32) (x2 : Int32) (σ : wt_St) : Option (Int32 × wt_St) :=
  if x1 = 0 then
    wp_md_bad_B16 n σ
  else
    if (wt_gf σ 108 0) = 0 then
      wp_md_bad_B16 n (wt_sf σ 108 0 x2)
    else
      wp_md_bad_B16 n σ
set_option maxRecDepth 100000 in
set_option maxHeartbeats 4000000 in
theorem wp_md_bad_ok {l : Launch} {w : wt_E} {n : Nat} {x1 : Int32} {x2 : Int32} (hD : ∀ i, 108 ≤ i → i < 321 → wt_dom w i) {σ : wt_St} {q : Int32 × wt_St} (h : wp_md_bad n x1 x2 σ = some q) : wt_Ctr l w wt_y_md_bad prog_13_method_3_code 3 (some .boolean) 0 [.ref (wt_ad w 108), .int x1, .int x2] σ (some q.1) q.2 := by
  refine wt_ctr wt_pl_md_bad rfl (Nat.le_of_ble_eq_true rfl) [some (.ref (wt_ad w 108)), some (.int x1), some (.int x2)] rfl ?_
  intro X hXl hXw hE hR
  subst hXl
  subst hXw
  have hE : wt_Ok X prog_13_method_3_code 3 "WornTypeModel" 0 0 := hE
  unfold wp_md_bad at h
  refine wt_iload_n hE wp_md_bad_d0 rfl ?_
  refine wt_if_eq hE 16 wp_md_bad_d1 rfl (fun c1 => ?_) (fun c1 => ?_)
  · have h := wt_ip c1 h
    refine wt_wk [true, false, false] rfl ?_
    exact wp_md_bad_B16_ok hE hR hD h
  · have h := wt_in c1 h
    refine wt_aload_n hE wp_md_bad_d4 rfl ?_
    refine wt_geti hE wt_lf_md_151 (hD 108 (by decide) (by decide)) wt_L108 rfl wp_md_bad_d5 ?_
    refine wt_if_ne hE 16 wp_md_bad_d8 rfl (fun c3 => ?_) (fun c3 => ?_)
    · have h := wt_in c3 h
      refine wt_wk [true, false, false] rfl ?_
      exact wp_md_bad_B16_ok hE hR hD h
    · have h := wt_ip c3 h
      refine wt_aload_n hE wp_md_bad_d11 rfl ?_
      refine wt_iload_n hE wp_md_bad_d12 rfl ?_
      refine wt_puti hE wt_lf_md_151 (hD 108 (by decide) (by decide)) wt_L108 rfl (fun q hq => by cases hq; rfl) wp_md_bad_d13 ?_
      refine wt_wk [true, false, false] rfl ?_
      exact wp_md_bad_B16_ok hE hR hD h
def wb14m4_prog_13_method_4_code_r0 : List (List Nat) := [26, 27, 161, 0, 12, 26, 28, 163, 0, 7, 4, 167, 0, 4, 3, 172] :: []
set_option maxRecDepth 100000 in
theorem wb14m4_prog_13_method_4_code_c0 : wt_cs prog_13_method_4_code 0 wb14m4_prog_13_method_4_code_r0 := wt_cs_of (by decide +kernel)
theorem wp_md_in_d0 : decode prog_13_method_4_code 0 = .ok (.iload_n 0, 1) := wt_op26 wb14m4_prog_13_method_4_code_c0 0 rfl rfl
theorem wp_md_in_d1 : decode prog_13_method_4_code 1 = .ok (.iload_n 1, 1) := wt_op27 wb14m4_prog_13_method_4_code_c0 1 rfl rfl
theorem wp_md_in_d2 : decode prog_13_method_4_code 2 = .ok (.if_icmp .lt 12, 3) := wt_op161 wb14m4_prog_13_method_4_code_c0 2 rfl rfl rfl
theorem wp_md_in_d5 : decode prog_13_method_4_code 5 = .ok (.iload_n 0, 1) := wt_op26 wb14m4_prog_13_method_4_code_c0 5 rfl rfl
theorem wp_md_in_d6 : decode prog_13_method_4_code 6 = .ok (.iload_n 2, 1) := wt_op28 wb14m4_prog_13_method_4_code_c0 6 rfl rfl
theorem wp_md_in_d7 : decode prog_13_method_4_code 7 = .ok (.if_icmp .gt 7, 3) := wt_op163 wb14m4_prog_13_method_4_code_c0 7 rfl rfl rfl
theorem wp_md_in_d10 : decode prog_13_method_4_code 10 = .ok (.iconst 1, 1) := wt_op4 wb14m4_prog_13_method_4_code_c0 10 rfl rfl
theorem wp_md_in_d11 : decode prog_13_method_4_code 11 = .ok (.goto 4, 3) := wt_op167 wb14m4_prog_13_method_4_code_c0 11 rfl rfl rfl
theorem wp_md_in_d14 : decode prog_13_method_4_code 14 = .ok (.iconst 0, 1) := wt_op3 wb14m4_prog_13_method_4_code_c0 14 rfl rfl
theorem wp_md_in_d15 : decode prog_13_method_4_code 15 = .ok (.ireturn, 1) := wt_op172 wb14m4_prog_13_method_4_code_c0 15 rfl rfl
noncomputable def wp_md_in (n : Nat) (x0 : Int32) (x1 : Int32) (x2 : Int32) (σ : wt_St) : Option (Int32 × wt_St) :=
  if x0 < x1 then
    some ((0 : Int32), σ)
  else
    if x2 < x0 then
      some ((0 : Int32), σ)
    else
      some ((1 : Int32), σ)
set_option maxRecDepth 100000 in
set_option maxHeartbeats 4000000 in
theorem wp_md_in_ok {l : Launch} {w : wt_E} {n : Nat} {x0 : Int32} {x1 : Int32} {x2 : Int32} {σ : wt_St} {q : Int32 × wt_St} (h : wp_md_in n x0 x1 x2 σ = some q) : wt_Ctr l w wt_y_md_in prog_13_method_4_code 3 (some .boolean) 0 [.int x0, .int x1, .int x2] σ (some q.1) q.2 := by
  refine wt_ctr wt_pl_md_in rfl (Nat.le_of_ble_eq_true rfl) [some (.int x0), some (.int x1), some (.int x2)] rfl ?_
  intro X hXl hXw hE hR
  subst hXl
  subst hXw
  have hE : wt_Ok X prog_13_method_4_code 3 "WornTypeModel" 0 0 := hE
  unfold wp_md_in at h
  refine wt_iload_n hE wp_md_in_d0 rfl ?_
  refine wt_iload_n hE wp_md_in_d1 rfl ?_
  refine wt_icmp_lt hE 14 wp_md_in_d2 rfl (fun c1 => ?_) (fun c1 => ?_)
  · have h := wt_ip c1 h
    refine wt_iconst hE (0 : Int32) wp_md_in_d14 wt_ci_0 ?_
    cases h
    exact wt_zret hE (by decide) hR wp_md_in_d15
  · have h := wt_in c1 h
    refine wt_iload_n hE wp_md_in_d5 rfl ?_
    refine wt_iload_n hE wp_md_in_d6 rfl ?_
    refine wt_icmp_gt hE 14 wp_md_in_d7 rfl (fun c2 => ?_) (fun c2 => ?_)
    · have h := wt_ip c2 h
      refine wt_iconst hE (0 : Int32) wp_md_in_d14 wt_ci_0 ?_
      cases h
      exact wt_zret hE (by decide) hR wp_md_in_d15
    · have h := wt_in c2 h
      refine wt_iconst hE (1 : Int32) wp_md_in_d10 wt_ci_1 ?_
      refine wt_goto hE 15 wp_md_in_d11 rfl ?_
      cases h
      exact wt_zret hE (by decide) hR wp_md_in_d15
def wb14m4_prog_13_method_55_code_r0 : List (List Nat) := [27, 3, 6, 184, 0, 185, 153, 0, 17, 42, 180, 0, 100, 27, 46, 2, 159, 0, 7, 4, 167, 0, 4, 3, 172] :: []
set_option maxRecDepth 100000 in
theorem wb14m4_prog_13_method_55_code_c0 : wt_cs prog_13_method_55_code 0 wb14m4_prog_13_method_55_code_r0 := wt_cs_of (by decide +kernel)
theorem wp_md_isPage_d0 : decode prog_13_method_55_code 0 = .ok (.iload_n 1, 1) := wt_op27 wb14m4_prog_13_method_55_code_c0 0 rfl rfl
theorem wp_md_isPage_d1 : decode prog_13_method_55_code 1 = .ok (.iconst 0, 1) := wt_op3 wb14m4_prog_13_method_55_code_c0 1 rfl rfl
theorem wp_md_isPage_d2 : decode prog_13_method_55_code 2 = .ok (.iconst 3, 1) := wt_op6 wb14m4_prog_13_method_55_code_c0 2 rfl rfl
theorem wp_md_isPage_d3 : decode prog_13_method_55_code 3 = .ok (.invokestatic 185, 3) := wt_op184 wb14m4_prog_13_method_55_code_c0 3 rfl rfl rfl
theorem wp_md_isPage_d6 : decode prog_13_method_55_code 6 = .ok (.ifCond .eq 17, 3) := wt_op153 wb14m4_prog_13_method_55_code_c0 6 rfl rfl rfl
theorem wp_md_isPage_d9 : decode prog_13_method_55_code 9 = .ok (.aload_n 0, 1) := wt_op42 wb14m4_prog_13_method_55_code_c0 9 rfl rfl
theorem wp_md_isPage_d10 : decode prog_13_method_55_code 10 = .ok (.getfield 100, 3) := wt_op180 wb14m4_prog_13_method_55_code_c0 10 rfl rfl rfl
theorem wp_md_isPage_d13 : decode prog_13_method_55_code 13 = .ok (.iload_n 1, 1) := wt_op27 wb14m4_prog_13_method_55_code_c0 13 rfl rfl
theorem wp_md_isPage_d14 : decode prog_13_method_55_code 14 = .ok (.iaload, 1) := wt_op46 wb14m4_prog_13_method_55_code_c0 14 rfl rfl
theorem wp_md_isPage_d15 : decode prog_13_method_55_code 15 = .ok (.iconst (-1), 1) := wt_op2 wb14m4_prog_13_method_55_code_c0 15 rfl rfl
theorem wp_md_isPage_d16 : decode prog_13_method_55_code 16 = .ok (.if_icmp .eq 7, 3) := wt_op159 wb14m4_prog_13_method_55_code_c0 16 rfl rfl rfl
theorem wp_md_isPage_d19 : decode prog_13_method_55_code 19 = .ok (.iconst 1, 1) := wt_op4 wb14m4_prog_13_method_55_code_c0 19 rfl rfl
theorem wp_md_isPage_d20 : decode prog_13_method_55_code 20 = .ok (.goto 4, 3) := wt_op167 wb14m4_prog_13_method_55_code_c0 20 rfl rfl rfl
theorem wp_md_isPage_d23 : decode prog_13_method_55_code 23 = .ok (.iconst 0, 1) := wt_op3 wb14m4_prog_13_method_55_code_c0 23 rfl rfl
theorem wp_md_isPage_d24 : decode prog_13_method_55_code 24 = .ok (.ireturn, 1) := wt_op172 wb14m4_prog_13_method_55_code_c0 24 rfl rfl
noncomputable def wp_md_isPage (n : Nat) (x1 : Int32) (σ : wt_St) : Option (Int32 × wt_St) :=
  (wp_md_in n x1 (0 : Int32) (3 : Int32) σ).bind fun q1 =>
  if q1.1 = 0 then
    some ((0 : Int32), q1.2)
  else
    if x1 < 0 ∨ 4 ≤ Int32.toNatClampNeg x1 then none else
    if (wt_ga q1.2 275 (Int32.toNatClampNeg x1)) = (-1 : Int32) then
      some ((0 : Int32), q1.2)
    else
      some ((1 : Int32), q1.2)
set_option maxRecDepth 100000 in
set_option maxHeartbeats 4000000 in
theorem wp_md_isPage_ok {l : Launch} {w : wt_E} {n : Nat} {x1 : Int32} (hD : ∀ i, 108 ≤ i → i < 321 → wt_dom w i) {σ : wt_St} {q : Int32 × wt_St} (h : wp_md_isPage n x1 σ = some q) : wt_Ctr l w wt_y_md_isPage prog_13_method_55_code 2 (some .boolean) 1 [.ref (wt_ad w 108), .int x1] σ (some q.1) q.2 := by
  refine wt_ctr wt_pl_md_isPage rfl (Nat.le_of_ble_eq_true rfl) [some (.ref (wt_ad w 108)), some (.int x1)] rfl ?_
  intro X hXl hXw hE hR
  subst hXl
  subst hXw
  have hE : wt_Ok X prog_13_method_55_code 2 "WornTypeModel" 1 0 := hE
  unfold wp_md_isPage at h
  refine wt_iload_n hE wp_md_isPage_d0 rfl ?_
  refine wt_iconst hE (0 : Int32) wp_md_isPage_d1 wt_ci_0 ?_
  refine wt_iconst hE (3 : Int32) wp_md_isPage_d2 wt_ci_3 ?_
  obtain ⟨q1, hq1, h⟩ := wt_bi h
  refine wt_callSi hE [.int x1, .int (0 : Int32), .int (3 : Int32)] wt_lm_md_185 wt_ya_md_in (wp_md_in_ok hq1) (by omega) rfl rfl (Nat.le_of_ble_eq_true rfl) (Nat.zero_le _) wp_md_isPage_d3 (fun hbq1 => ?_)
  refine wt_if_eq hE 23 wp_md_isPage_d6 rfl (fun c2 => ?_) (fun c2 => ?_)
  · have h := wt_ip c2 h
    refine wt_iconst hE (0 : Int32) wp_md_isPage_d23 wt_ci_0 ?_
    cases h
    exact wt_zret hE (by decide) hR wp_md_isPage_d24
  · have h := wt_in c2 h
    refine wt_aload_n hE wp_md_isPage_d9 rfl ?_
    refine wt_getr hE (r := 275) wt_lf_md_100 (hD 108 (by decide) (by decide)) wt_L108 rfl wp_md_isPage_d10 ?_
    refine wt_iload_n hE wp_md_isPage_d13 rfl ?_
    obtain ⟨g3, h⟩ := wt_gd h
    refine wt_iald hE (hD 275 (by decide) (by decide)) wt_L275 g3 wp_md_isPage_d14 ?_
    refine wt_iconst hE (-1 : Int32) wp_md_isPage_d15 wt_ci_m1 ?_
    refine wt_icmp_eq hE 23 wp_md_isPage_d16 rfl (fun c4 => ?_) (fun c4 => ?_)
    · have h := wt_ip c4 h
      refine wt_iconst hE (0 : Int32) wp_md_isPage_d23 wt_ci_0 ?_
      cases h
      exact wt_zret hE (by decide) hR wp_md_isPage_d24
    · have h := wt_in c4 h
      refine wt_iconst hE (1 : Int32) wp_md_isPage_d19 wt_ci_1 ?_
      refine wt_goto hE 24 wp_md_isPage_d20 rfl ?_
      cases h
      exact wt_zret hE (by decide) hR wp_md_isPage_d24
def wb14m4_prog_13_method_58_code_r1 : List (List Nat) := [167, 255, 229, 42, 180, 0, 100, 27, 2, 79, 177] :: []
def wb14m4_prog_13_method_58_code_r0 : List (List Nat) := [3, 61, 28, 42, 180, 0, 103, 27, 46, 162, 0, 23, 42, 180, 0, 59, 42, 180, 0, 106, 27, 50, 28, 46, 2, 79, 132, 2, 1] :: wb14m4_prog_13_method_58_code_r1
set_option maxRecDepth 100000 in
theorem wb14m4_prog_13_method_58_code_c0 : wt_cs prog_13_method_58_code 0 wb14m4_prog_13_method_58_code_r0 := wt_cs_of (by decide +kernel)
theorem wb14m4_prog_13_method_58_code_c1 : wt_cs prog_13_method_58_code 29 wb14m4_prog_13_method_58_code_r1 := wt_cs_tl (m := 29) wb14m4_prog_13_method_58_code_c0 rfl rfl
theorem wp_md_takesApart_d0 : decode prog_13_method_58_code 0 = .ok (.iconst 0, 1) := wt_op3 wb14m4_prog_13_method_58_code_c0 0 rfl rfl
theorem wp_md_takesApart_d1 : decode prog_13_method_58_code 1 = .ok (.istore_n 2, 1) := wt_op61 wb14m4_prog_13_method_58_code_c0 1 rfl rfl
theorem wp_md_takesApart_d2 : decode prog_13_method_58_code 2 = .ok (.iload_n 2, 1) := wt_op28 wb14m4_prog_13_method_58_code_c0 2 rfl rfl
theorem wp_md_takesApart_d3 : decode prog_13_method_58_code 3 = .ok (.aload_n 0, 1) := wt_op42 wb14m4_prog_13_method_58_code_c0 3 rfl rfl
theorem wp_md_takesApart_d4 : decode prog_13_method_58_code 4 = .ok (.getfield 103, 3) := wt_op180 wb14m4_prog_13_method_58_code_c0 4 rfl rfl rfl
theorem wp_md_takesApart_d7 : decode prog_13_method_58_code 7 = .ok (.iload_n 1, 1) := wt_op27 wb14m4_prog_13_method_58_code_c0 7 rfl rfl
theorem wp_md_takesApart_d8 : decode prog_13_method_58_code 8 = .ok (.iaload, 1) := wt_op46 wb14m4_prog_13_method_58_code_c0 8 rfl rfl
theorem wp_md_takesApart_d9 : decode prog_13_method_58_code 9 = .ok (.if_icmp .ge 23, 3) := wt_op162 wb14m4_prog_13_method_58_code_c0 9 rfl rfl rfl
theorem wp_md_takesApart_d12 : decode prog_13_method_58_code 12 = .ok (.aload_n 0, 1) := wt_op42 wb14m4_prog_13_method_58_code_c0 12 rfl rfl
theorem wp_md_takesApart_d13 : decode prog_13_method_58_code 13 = .ok (.getfield 59, 3) := wt_op180 wb14m4_prog_13_method_58_code_c0 13 rfl rfl rfl
theorem wp_md_takesApart_d16 : decode prog_13_method_58_code 16 = .ok (.aload_n 0, 1) := wt_op42 wb14m4_prog_13_method_58_code_c0 16 rfl rfl
theorem wp_md_takesApart_d17 : decode prog_13_method_58_code 17 = .ok (.getfield 106, 3) := wt_op180 wb14m4_prog_13_method_58_code_c0 17 rfl rfl rfl
theorem wp_md_takesApart_d20 : decode prog_13_method_58_code 20 = .ok (.iload_n 1, 1) := wt_op27 wb14m4_prog_13_method_58_code_c0 20 rfl rfl
theorem wp_md_takesApart_d21 : decode prog_13_method_58_code 21 = .ok (.aaload, 1) := wt_op50 wb14m4_prog_13_method_58_code_c0 21 rfl rfl
theorem wp_md_takesApart_d22 : decode prog_13_method_58_code 22 = .ok (.iload_n 2, 1) := wt_op28 wb14m4_prog_13_method_58_code_c0 22 rfl rfl
theorem wp_md_takesApart_d23 : decode prog_13_method_58_code 23 = .ok (.iaload, 1) := wt_op46 wb14m4_prog_13_method_58_code_c0 23 rfl rfl
theorem wp_md_takesApart_d24 : decode prog_13_method_58_code 24 = .ok (.iconst (-1), 1) := wt_op2 wb14m4_prog_13_method_58_code_c0 24 rfl rfl
theorem wp_md_takesApart_d25 : decode prog_13_method_58_code 25 = .ok (.iastore, 1) := wt_op79 wb14m4_prog_13_method_58_code_c0 25 rfl rfl
theorem wp_md_takesApart_d26 : decode prog_13_method_58_code 26 = .ok (.iinc 2 1, 3) := wt_op132 wb14m4_prog_13_method_58_code_c0 26 rfl rfl rfl
theorem wp_md_takesApart_d29 : decode prog_13_method_58_code 29 = .ok (.goto (-27), 3) := wt_op167 wb14m4_prog_13_method_58_code_c1 0 rfl rfl rfl
theorem wp_md_takesApart_d32 : decode prog_13_method_58_code 32 = .ok (.aload_n 0, 1) := wt_op42 wb14m4_prog_13_method_58_code_c1 3 rfl rfl
theorem wp_md_takesApart_d33 : decode prog_13_method_58_code 33 = .ok (.getfield 100, 3) := wt_op180 wb14m4_prog_13_method_58_code_c1 4 rfl rfl rfl
theorem wp_md_takesApart_d36 : decode prog_13_method_58_code 36 = .ok (.iload_n 1, 1) := wt_op27 wb14m4_prog_13_method_58_code_c1 7 rfl rfl
theorem wp_md_takesApart_d37 : decode prog_13_method_58_code 37 = .ok (.iconst (-1), 1) := wt_op2 wb14m4_prog_13_method_58_code_c1 8 rfl rfl
theorem wp_md_takesApart_d38 : decode prog_13_method_58_code 38 = .ok (.iastore, 1) := wt_op79 wb14m4_prog_13_method_58_code_c1 9 rfl rfl
theorem wp_md_takesApart_d39 : decode prog_13_method_58_code 39 = .ok (.return_, 1) := wt_op177 wb14m4_prog_13_method_58_code_c1 10 rfl rfl
noncomputable def wp_md_takesApart_B2 (n : Nat) (x1 : Int32) (K2 : Int32 × wt_St → Option (wt_St)) (s : Int32 × wt_St) : Option (wt_St) :=
  if x1 < 0 ∨ 4 ≤ Int32.toNatClampNeg x1 then none else
  if (wt_ga s.2 276 (Int32.toNatClampNeg x1)) ≤ s.1 then
    if x1 < 0 ∨ 4 ≤ Int32.toNatClampNeg x1 then none else
    some (wt_sa s.2 275 (Int32.toNatClampNeg x1) (-1 : Int32))
  else
    if x1 < 0 ∨ 4 ≤ Int32.toNatClampNeg x1 then none else
    if s.1 < 0 ∨ 108 ≤ Int32.toNatClampNeg s.1 then none else
    if (wt_ga s.2 (278 + Int32.toNatClampNeg x1) (Int32.toNatClampNeg s.1)) < 0 ∨ 338 ≤ Int32.toNatClampNeg (wt_ga s.2 (278 + Int32.toNatClampNeg x1) (Int32.toNatClampNeg s.1)) then none else
    K2 ((s.1 + (1 : Int32)), (wt_sa s.2 124 (Int32.toNatClampNeg (wt_ga s.2 (278 + Int32.toNatClampNeg x1) (Int32.toNatClampNeg s.1))) (-1 : Int32)))
set_option maxRecDepth 100000 in
set_option maxHeartbeats 4000000 in
theorem wp_md_takesApart_B2_ok  {x1 : Int32} {X : wt_X} {n : Nat} {res : wt_St} (hE : wt_Ok X prog_13_method_58_code 3 "WornTypeModel" 0 0) (hR : wt_Rt X none none res) (hD : ∀ i, 108 ≤ i → i < 321 → wt_dom (wt_xw X) i)  {K2 : Int32 × wt_St → Option (wt_St)} (hK2 : ∀ s : Int32 × wt_St, K2 s = some res → wt_V X 0 s.2 2 [some (.ref (wt_ad (wt_xw X) 108)), some (.int x1), some (.int s.1)] []) {s : Int32 × wt_St} (h : wp_md_takesApart_B2 n x1 K2 s = some res) : wt_V X 0 s.2 2 [some (.ref (wt_ad (wt_xw X) 108)), some (.int x1), some (.int s.1)] [] := by
  unfold wp_md_takesApart_B2 at h
  refine wt_iload_n hE wp_md_takesApart_d2 rfl ?_
  refine wt_aload_n hE wp_md_takesApart_d3 rfl ?_
  refine wt_getr hE (r := 276) wt_lf_md_103 (hD 108 (by decide) (by decide)) wt_L108 rfl wp_md_takesApart_d4 ?_
  refine wt_iload_n hE wp_md_takesApart_d7 rfl ?_
  obtain ⟨g1, h⟩ := wt_gd h
  refine wt_iald hE (hD 276 (by decide) (by decide)) wt_L276 g1 wp_md_takesApart_d8 ?_
  refine wt_icmp_ge hE 32 wp_md_takesApart_d9 rfl (fun c2 => ?_) (fun c2 => ?_)
  · have h := wt_ip c2 h
    refine wt_aload_n hE wp_md_takesApart_d32 rfl ?_
    refine wt_getr hE (r := 275) wt_lf_md_100 (hD 108 (by decide) (by decide)) wt_L108 rfl wp_md_takesApart_d33 ?_
    refine wt_iload_n hE wp_md_takesApart_d36 rfl ?_
    refine wt_iconst hE (-1 : Int32) wp_md_takesApart_d37 wt_ci_m1 ?_
    obtain ⟨g3, h⟩ := wt_gd h
    refine wt_iast hE (hD 275 (by decide) (by decide)) wt_L275 g3 wp_md_takesApart_d38 ?_
    cases h
    exact wt_vret hE hR wp_md_takesApart_d39
  · have h := wt_in c2 h
    refine wt_aload_n hE wp_md_takesApart_d12 rfl ?_
    refine wt_getr hE (r := 124) wt_lf_md_59 (hD 108 (by decide) (by decide)) wt_L108 rfl wp_md_takesApart_d13 ?_
    refine wt_aload_n hE wp_md_takesApart_d16 rfl ?_
    refine wt_getr hE (r := 277) wt_lf_md_106 (hD 108 (by decide) (by decide)) wt_L108 rfl wp_md_takesApart_d17 ?_
    refine wt_iload_n hE wp_md_takesApart_d20 rfl ?_
    obtain ⟨g4, h⟩ := wt_gd h
    have lg4 := wt_lt g4
    refine wt_aald1 hE (hD 277 (by decide) (by decide)) wt_L277 g4 wp_md_takesApart_d21 ?_
    refine wt_iload_n hE wp_md_takesApart_d22 rfl ?_
    obtain ⟨g5, h⟩ := wt_gd h
    refine wt_iald hE (hD _ (by omega) (by omega)) (wt_G278 _ lg4) g5 wp_md_takesApart_d23 ?_
    refine wt_iconst hE (-1 : Int32) wp_md_takesApart_d24 wt_ci_m1 ?_
    obtain ⟨g6, h⟩ := wt_gd h
    refine wt_iast hE (hD 124 (by decide) (by decide)) wt_L124 g6 wp_md_takesApart_d25 ?_
    refine wt_iinc hE (s.1 + (1 : Int32)) [some (.ref (wt_ad (wt_xw X) 108)), some (.int x1), some (.int (s.1 + (1 : Int32)))] wp_md_takesApart_d26 (by decide) rfl rfl rfl ?_
    refine wt_goto hE 2 wp_md_takesApart_d29 rfl ?_
    exact hK2 ((s.1 + (1 : Int32)), (wt_sa s.2 124 (Int32.toNatClampNeg (wt_ga s.2 (278 + Int32.toNatClampNeg x1) (Int32.toNatClampNeg s.1))) (-1 : Int32))) h
noncomputable def wp_md_takesApart (n : Nat) (x1 : Int32) (σ : wt_St) : Option (wt_St) :=
  wt_it (wp_md_takesApart_B2 n x1) n ((0 : Int32), σ)
set_option maxRecDepth 100000 in
set_option maxHeartbeats 4000000 in
theorem wp_md_takesApart_ok {l : Launch} {w : wt_E} {n : Nat} {x1 : Int32} (hD : ∀ i, 108 ≤ i → i < 321 → wt_dom w i) {σ : wt_St} {q : wt_St} (h : wp_md_takesApart n x1 σ = some q) : wt_Ctr l w wt_y_md_takesApart prog_13_method_58_code 3 none 0 [.ref (wt_ad w 108), .int x1] σ none q := by
  refine wt_ctr wt_pl_md_takesApart rfl (Nat.le_of_ble_eq_true rfl) [some (.ref (wt_ad w 108)), some (.int x1), none] rfl ?_
  intro X hXl hXw hE hR
  subst hXl
  subst hXw
  have hE : wt_Ok X prog_13_method_58_code 3 "WornTypeModel" 0 0 := hE
  unfold wp_md_takesApart at h
  refine wt_iconst hE (0 : Int32) wp_md_takesApart_d0 wt_ci_0 ?_
  refine wt_istore_n hE [some (.ref (wt_ad (wt_xw X) 108)), some (.int x1), some (.int (0 : Int32))] wp_md_takesApart_d1 (by decide) rfl ?_
  exact wt_it_ind (fun z => wt_V X 0 z.2 2 [some (.ref (wt_ad (wt_xw X) 108)), some (.int x1), some (.int z.1)] []) (fun K hK z h => wp_md_takesApart_B2_ok hE hR hD hK h) n ((0 : Int32), σ) h
def wb14m4_prog_13_method_59_code_r1 : List (List Nat) := [42, 27, 182, 1, 15, 42, 180, 0, 103, 27, 46, 172] :: []
def wb14m4_prog_13_method_59_code_r0 : List (List Nat) := [42, 3, 181, 0, 151, 42, 42, 27, 182, 1, 70, 154, 0, 7, 4, 167, 0, 4, 3, 4, 182, 0, 230, 153, 0, 5, 3, 172] :: wb14m4_prog_13_method_59_code_r1
set_option maxRecDepth 100000 in
theorem wb14m4_prog_13_method_59_code_c0 : wt_cs prog_13_method_59_code 0 wb14m4_prog_13_method_59_code_r0 := wt_cs_of (by decide +kernel)
theorem wb14m4_prog_13_method_59_code_c1 : wt_cs prog_13_method_59_code 28 wb14m4_prog_13_method_59_code_r1 := wt_cs_tl (m := 28) wb14m4_prog_13_method_59_code_c0 rfl rfl
theorem wp_md_apart_d0 : decode prog_13_method_59_code 0 = .ok (.aload_n 0, 1) := wt_op42 wb14m4_prog_13_method_59_code_c0 0 rfl rfl
theorem wp_md_apart_d1 : decode prog_13_method_59_code 1 = .ok (.iconst 0, 1) := wt_op3 wb14m4_prog_13_method_59_code_c0 1 rfl rfl
theorem wp_md_apart_d2 : decode prog_13_method_59_code 2 = .ok (.putfield 151, 3) := wt_op181 wb14m4_prog_13_method_59_code_c0 2 rfl rfl rfl
theorem wp_md_apart_d5 : decode prog_13_method_59_code 5 = .ok (.aload_n 0, 1) := wt_op42 wb14m4_prog_13_method_59_code_c0 5 rfl rfl
theorem wp_md_apart_d6 : decode prog_13_method_59_code 6 = .ok (.aload_n 0, 1) := wt_op42 wb14m4_prog_13_method_59_code_c0 6 rfl rfl
theorem wp_md_apart_d7 : decode prog_13_method_59_code 7 = .ok (.iload_n 1, 1) := wt_op27 wb14m4_prog_13_method_59_code_c0 7 rfl rfl
theorem wp_md_apart_d8 : decode prog_13_method_59_code 8 = .ok (.invokevirtual 326, 3) := wt_op182 wb14m4_prog_13_method_59_code_c0 8 rfl rfl rfl
theorem wp_md_apart_d11 : decode prog_13_method_59_code 11 = .ok (.ifCond .ne 7, 3) := wt_op154 wb14m4_prog_13_method_59_code_c0 11 rfl rfl rfl
theorem wp_md_apart_d14 : decode prog_13_method_59_code 14 = .ok (.iconst 1, 1) := wt_op4 wb14m4_prog_13_method_59_code_c0 14 rfl rfl
theorem wp_md_apart_d15 : decode prog_13_method_59_code 15 = .ok (.goto 4, 3) := wt_op167 wb14m4_prog_13_method_59_code_c0 15 rfl rfl rfl
theorem wp_md_apart_d18 : decode prog_13_method_59_code 18 = .ok (.iconst 0, 1) := wt_op3 wb14m4_prog_13_method_59_code_c0 18 rfl rfl
theorem wp_md_apart_d19 : decode prog_13_method_59_code 19 = .ok (.iconst 1, 1) := wt_op4 wb14m4_prog_13_method_59_code_c0 19 rfl rfl
theorem wp_md_apart_d20 : decode prog_13_method_59_code 20 = .ok (.invokevirtual 230, 3) := wt_op182 wb14m4_prog_13_method_59_code_c0 20 rfl rfl rfl
theorem wp_md_apart_d23 : decode prog_13_method_59_code 23 = .ok (.ifCond .eq 5, 3) := wt_op153 wb14m4_prog_13_method_59_code_c0 23 rfl rfl rfl
theorem wp_md_apart_d26 : decode prog_13_method_59_code 26 = .ok (.iconst 0, 1) := wt_op3 wb14m4_prog_13_method_59_code_c0 26 rfl rfl
theorem wp_md_apart_d27 : decode prog_13_method_59_code 27 = .ok (.ireturn, 1) := wt_op172 wb14m4_prog_13_method_59_code_c0 27 rfl rfl
theorem wp_md_apart_d28 : decode prog_13_method_59_code 28 = .ok (.aload_n 0, 1) := wt_op42 wb14m4_prog_13_method_59_code_c1 0 rfl rfl
theorem wp_md_apart_d29 : decode prog_13_method_59_code 29 = .ok (.iload_n 1, 1) := wt_op27 wb14m4_prog_13_method_59_code_c1 1 rfl rfl
theorem wp_md_apart_d30 : decode prog_13_method_59_code 30 = .ok (.invokevirtual 271, 3) := wt_op182 wb14m4_prog_13_method_59_code_c1 2 rfl rfl rfl
theorem wp_md_apart_d33 : decode prog_13_method_59_code 33 = .ok (.aload_n 0, 1) := wt_op42 wb14m4_prog_13_method_59_code_c1 5 rfl rfl
theorem wp_md_apart_d34 : decode prog_13_method_59_code 34 = .ok (.getfield 103, 3) := wt_op180 wb14m4_prog_13_method_59_code_c1 6 rfl rfl rfl
theorem wp_md_apart_d37 : decode prog_13_method_59_code 37 = .ok (.iload_n 1, 1) := wt_op27 wb14m4_prog_13_method_59_code_c1 9 rfl rfl
theorem wp_md_apart_d38 : decode prog_13_method_59_code 38 = .ok (.iaload, 1) := wt_op46 wb14m4_prog_13_method_59_code_c1 10 rfl rfl
theorem wp_md_apart_d39 : decode prog_13_method_59_code 39 = .ok (.ireturn, 1) := wt_op172 wb14m4_prog_13_method_59_code_c1 11 rfl rfl
noncomputable def wp_md_apart_B19 (n : Nat) (x1 : Int32) (y1 : Int32) (σ : wt_St) : Option (Int32 × wt_St) :=
  (wp_md_bad n y1 (1 : Int32) σ).bind fun q3 =>
  if q3.1 = 0 then
    (wp_md_takesApart n x1 q3.2).bind fun q5 =>
    if x1 < 0 ∨ 4 ≤ Int32.toNatClampNeg x1 then none else
    some ((wt_ga q5 276 (Int32.toNatClampNeg x1)), q5)
  else
    some ((0 : Int32), q3.2)
set_option maxRecDepth 100000 in
set_option maxHeartbeats 4000000 in
theorem wp_md_apart_B19_ok  {x1 : Int32} {X : wt_X} {n : Nat} {res : Int32 × wt_St} (hE : wt_Ok X prog_13_method_59_code 2 "WornTypeModel" 2 0) (hR : wt_Rt X (some .int) (some res.1) res.2) (hD : ∀ i, 108 ≤ i → i < 321 → wt_dom (wt_xw X) i)  {σ : wt_St} {y1 : Int32} (h : wp_md_apart_B19 n x1 y1 σ = some res) : wt_V X 0 σ 19 [some (.ref (wt_ad (wt_xw X) 108)), some (.int x1)] [.int y1, .ref (wt_ad (wt_xw X) 108)] := by
  unfold wp_md_apart_B19 at h
  refine wt_iconst hE (1 : Int32) wp_md_apart_d19 wt_ci_1 ?_
  obtain ⟨q3, hq3, h⟩ := wt_bi h
  refine wt_callVi hE [.int y1, .int (1 : Int32)] wt_lm_md_230 wt_ya_md_bad (wp_md_bad_ok hD hq3) (by omega) (hD 108 (by decide) (by decide)) wt_L108 rfl rfl rfl (Nat.le_of_ble_eq_true rfl) (Nat.zero_le _) wp_md_apart_d20 (fun hbq3 => ?_)
  refine wt_if_eq hE 28 wp_md_apart_d23 rfl (fun c4 => ?_) (fun c4 => ?_)
  · have h := wt_ip c4 h
    refine wt_aload_n hE wp_md_apart_d28 rfl ?_
    refine wt_iload_n hE wp_md_apart_d29 rfl ?_
    obtain ⟨q5, hq5, h⟩ := wt_bi h
    refine wt_callVv hE [.int x1] wt_lm_md_271 wt_ya_md_takesApart (wp_md_takesApart_ok hD hq5) (by omega) (hD 108 (by decide) (by decide)) wt_L108 rfl rfl rfl (Nat.le_of_ble_eq_true rfl) (Nat.zero_le _) wp_md_apart_d30 ?_
    refine wt_aload_n hE wp_md_apart_d33 rfl ?_
    refine wt_getr hE (r := 276) wt_lf_md_103 (hD 108 (by decide) (by decide)) wt_L108 rfl wp_md_apart_d34 ?_
    refine wt_iload_n hE wp_md_apart_d37 rfl ?_
    obtain ⟨g6, h⟩ := wt_gd h
    refine wt_iald hE (hD 276 (by decide) (by decide)) wt_L276 g6 wp_md_apart_d38 ?_
    cases h
    exact wt_iret hE hR wp_md_apart_d39
  · have h := wt_in c4 h
    refine wt_iconst hE (0 : Int32) wp_md_apart_d26 wt_ci_0 ?_
    cases h
    exact wt_iret hE hR wp_md_apart_d27
noncomputable def wp_md_apart (n : Nat) (x1 : Int32) (σ : wt_St) : Option (Int32 × wt_St) :=
  (wp_md_isPage n x1 (wt_sf σ 108 0 (0 : Int32))).bind fun q1 =>
  if q1.1 = 0 then
    wp_md_apart_B19 n x1 (1 : Int32) q1.2
  else
    wp_md_apart_B19 n x1 (0 : Int32) q1.2
set_option maxRecDepth 100000 in
set_option maxHeartbeats 4000000 in
theorem wp_md_apart_ok {l : Launch} {w : wt_E} {n : Nat} {x1 : Int32} (hD : ∀ i, 108 ≤ i → i < 321 → wt_dom w i) {σ : wt_St} {q : Int32 × wt_St} (h : wp_md_apart n x1 σ = some q) : wt_Ctr l w wt_y_md_apart prog_13_method_59_code 2 (some .int) 2 [.ref (wt_ad w 108), .int x1] σ (some q.1) q.2 := by
  refine wt_ctr wt_pl_md_apart rfl (Nat.le_of_ble_eq_true rfl) [some (.ref (wt_ad w 108)), some (.int x1)] rfl ?_
  intro X hXl hXw hE hR
  subst hXl
  subst hXw
  have hE : wt_Ok X prog_13_method_59_code 2 "WornTypeModel" 2 0 := hE
  unfold wp_md_apart at h
  refine wt_aload_n hE wp_md_apart_d0 rfl ?_
  refine wt_iconst hE (0 : Int32) wp_md_apart_d1 wt_ci_0 ?_
  refine wt_puti hE wt_lf_md_151 (hD 108 (by decide) (by decide)) wt_L108 rfl (fun q hq => by cases hq; rfl) wp_md_apart_d2 ?_
  refine wt_aload_n hE wp_md_apart_d5 rfl ?_
  refine wt_aload_n hE wp_md_apart_d6 rfl ?_
  refine wt_iload_n hE wp_md_apart_d7 rfl ?_
  obtain ⟨q1, hq1, h⟩ := wt_bi h
  refine wt_callVi hE [.int x1] wt_lm_md_326 wt_ya_md_isPage (wp_md_isPage_ok hD hq1) (by omega) (hD 108 (by decide) (by decide)) wt_L108 rfl rfl rfl (Nat.le_of_ble_eq_true rfl) (Nat.zero_le _) wp_md_apart_d8 (fun hbq1 => ?_)
  refine wt_if_ne hE 18 wp_md_apart_d11 rfl (fun c2 => ?_) (fun c2 => ?_)
  · have h := wt_in c2 h
    refine wt_iconst hE (0 : Int32) wp_md_apart_d18 wt_ci_0 ?_
    exact wp_md_apart_B19_ok hE hR hD h
  · have h := wt_ip c2 h
    refine wt_iconst hE (1 : Int32) wp_md_apart_d14 wt_ci_1 ?_
    refine wt_goto hE 19 wp_md_apart_d15 rfl ?_
    exact wp_md_apart_B19_ok hE hR hD h
def wb14m4_prog_13_method_45_code_r0 : List (List Nat) := [27, 3, 42, 180, 1, 9, 4, 100, 184, 0, 185, 172] :: []
set_option maxRecDepth 100000 in
theorem wb14m4_prog_13_method_45_code_c0 : wt_cs prog_13_method_45_code 0 wb14m4_prog_13_method_45_code_r0 := wt_cs_of (by decide +kernel)
theorem wp_md_isText_d0 : decode prog_13_method_45_code 0 = .ok (.iload_n 1, 1) := wt_op27 wb14m4_prog_13_method_45_code_c0 0 rfl rfl
theorem wp_md_isText_d1 : decode prog_13_method_45_code 1 = .ok (.iconst 0, 1) := wt_op3 wb14m4_prog_13_method_45_code_c0 1 rfl rfl
theorem wp_md_isText_d2 : decode prog_13_method_45_code 2 = .ok (.aload_n 0, 1) := wt_op42 wb14m4_prog_13_method_45_code_c0 2 rfl rfl
theorem wp_md_isText_d3 : decode prog_13_method_45_code 3 = .ok (.getfield 265, 3) := wt_op180 wb14m4_prog_13_method_45_code_c0 3 rfl rfl rfl
theorem wp_md_isText_d6 : decode prog_13_method_45_code 6 = .ok (.iconst 1, 1) := wt_op4 wb14m4_prog_13_method_45_code_c0 6 rfl rfl
theorem wp_md_isText_d7 : decode prog_13_method_45_code 7 = .ok (.isub, 1) := wt_op100 wb14m4_prog_13_method_45_code_c0 7 rfl rfl
theorem wp_md_isText_d8 : decode prog_13_method_45_code 8 = .ok (.invokestatic 185, 3) := wt_op184 wb14m4_prog_13_method_45_code_c0 8 rfl rfl rfl
theorem wp_md_isText_d11 : decode prog_13_method_45_code 11 = .ok (.ireturn, 1) := wt_op172 wb14m4_prog_13_method_45_code_c0 11 rfl rfl
noncomputable def wp_md_isText (n : Nat) (x1 : Int32) (σ : wt_St) : Option (Int32 × wt_St) :=
  (wp_md_in n x1 (0 : Int32) ((wt_gf σ 108 39) - (1 : Int32)) σ).bind fun q1 =>
  some (q1.1, q1.2)
set_option maxRecDepth 100000 in
set_option maxHeartbeats 4000000 in
theorem wp_md_isText_ok {l : Launch} {w : wt_E} {n : Nat} {x1 : Int32} (hD : ∀ i, 108 ≤ i → i < 321 → wt_dom w i) {σ : wt_St} {q : Int32 × wt_St} (h : wp_md_isText n x1 σ = some q) : wt_Ctr l w wt_y_md_isText prog_13_method_45_code 2 (some .boolean) 1 [.ref (wt_ad w 108), .int x1] σ (some q.1) q.2 := by
  refine wt_ctr wt_pl_md_isText rfl (Nat.le_of_ble_eq_true rfl) [some (.ref (wt_ad w 108)), some (.int x1)] rfl ?_
  intro X hXl hXw hE hR
  subst hXl
  subst hXw
  have hE : wt_Ok X prog_13_method_45_code 2 "WornTypeModel" 1 0 := hE
  unfold wp_md_isText at h
  refine wt_iload_n hE wp_md_isText_d0 rfl ?_
  refine wt_iconst hE (0 : Int32) wp_md_isText_d1 wt_ci_0 ?_
  refine wt_aload_n hE wp_md_isText_d2 rfl ?_
  refine wt_geti hE wt_lf_md_265 (hD 108 (by decide) (by decide)) wt_L108 rfl wp_md_isText_d3 ?_
  refine wt_iconst hE (1 : Int32) wp_md_isText_d6 wt_ci_1 ?_
  refine wt_isub hE wp_md_isText_d7 ?_
  obtain ⟨q1, hq1, h⟩ := wt_bi h
  refine wt_callSi hE [.int x1, .int (0 : Int32), .int ((wt_gf σ 108 39) - (1 : Int32))] wt_lm_md_185 wt_ya_md_in (wp_md_in_ok hq1) (by omega) rfl rfl (Nat.le_of_ble_eq_true rfl) (Nat.zero_le _) wp_md_isText_d8 (fun hbq1 => ?_)
  cases h
  exact wt_zret hE (hbq1 rfl _ rfl) hR wp_md_isText_d11
def wb14m4_prog_13_method_46_code_r2 : List (List Nat) := [172] :: []
def wb14m4_prog_13_method_46_code_r1 : List (List Nat) := [28, 3, 42, 180, 0, 88, 27, 46, 4, 100, 184, 0, 185, 153, 0, 14, 42, 180, 0, 91, 27, 50, 28, 46, 167, 0, 4, 2] :: wb14m4_prog_13_method_46_code_r2
def wb14m4_prog_13_method_46_code_r0 : List (List Nat) := [42, 3, 181, 0, 151, 42, 42, 27, 182, 1, 51, 154, 0, 7, 4, 167, 0, 4, 3, 4, 182, 0, 230, 153, 0, 5, 3, 172] :: wb14m4_prog_13_method_46_code_r1
set_option maxRecDepth 100000 in
theorem wb14m4_prog_13_method_46_code_c0 : wt_cs prog_13_method_46_code 0 wb14m4_prog_13_method_46_code_r0 := wt_cs_of (by decide +kernel)
theorem wb14m4_prog_13_method_46_code_c1 : wt_cs prog_13_method_46_code 28 wb14m4_prog_13_method_46_code_r1 := wt_cs_tl (m := 28) wb14m4_prog_13_method_46_code_c0 rfl rfl
theorem wb14m4_prog_13_method_46_code_c2 : wt_cs prog_13_method_46_code 56 wb14m4_prog_13_method_46_code_r2 := wt_cs_tl (m := 28) wb14m4_prog_13_method_46_code_c1 rfl rfl
theorem wp_md_at_d0 : decode prog_13_method_46_code 0 = .ok (.aload_n 0, 1) := wt_op42 wb14m4_prog_13_method_46_code_c0 0 rfl rfl
theorem wp_md_at_d1 : decode prog_13_method_46_code 1 = .ok (.iconst 0, 1) := wt_op3 wb14m4_prog_13_method_46_code_c0 1 rfl rfl
theorem wp_md_at_d2 : decode prog_13_method_46_code 2 = .ok (.putfield 151, 3) := wt_op181 wb14m4_prog_13_method_46_code_c0 2 rfl rfl rfl
theorem wp_md_at_d5 : decode prog_13_method_46_code 5 = .ok (.aload_n 0, 1) := wt_op42 wb14m4_prog_13_method_46_code_c0 5 rfl rfl
theorem wp_md_at_d6 : decode prog_13_method_46_code 6 = .ok (.aload_n 0, 1) := wt_op42 wb14m4_prog_13_method_46_code_c0 6 rfl rfl
theorem wp_md_at_d7 : decode prog_13_method_46_code 7 = .ok (.iload_n 1, 1) := wt_op27 wb14m4_prog_13_method_46_code_c0 7 rfl rfl
theorem wp_md_at_d8 : decode prog_13_method_46_code 8 = .ok (.invokevirtual 307, 3) := wt_op182 wb14m4_prog_13_method_46_code_c0 8 rfl rfl rfl
theorem wp_md_at_d11 : decode prog_13_method_46_code 11 = .ok (.ifCond .ne 7, 3) := wt_op154 wb14m4_prog_13_method_46_code_c0 11 rfl rfl rfl
theorem wp_md_at_d14 : decode prog_13_method_46_code 14 = .ok (.iconst 1, 1) := wt_op4 wb14m4_prog_13_method_46_code_c0 14 rfl rfl
theorem wp_md_at_d15 : decode prog_13_method_46_code 15 = .ok (.goto 4, 3) := wt_op167 wb14m4_prog_13_method_46_code_c0 15 rfl rfl rfl
theorem wp_md_at_d18 : decode prog_13_method_46_code 18 = .ok (.iconst 0, 1) := wt_op3 wb14m4_prog_13_method_46_code_c0 18 rfl rfl
theorem wp_md_at_d19 : decode prog_13_method_46_code 19 = .ok (.iconst 1, 1) := wt_op4 wb14m4_prog_13_method_46_code_c0 19 rfl rfl
theorem wp_md_at_d20 : decode prog_13_method_46_code 20 = .ok (.invokevirtual 230, 3) := wt_op182 wb14m4_prog_13_method_46_code_c0 20 rfl rfl rfl
theorem wp_md_at_d23 : decode prog_13_method_46_code 23 = .ok (.ifCond .eq 5, 3) := wt_op153 wb14m4_prog_13_method_46_code_c0 23 rfl rfl rfl
theorem wp_md_at_d26 : decode prog_13_method_46_code 26 = .ok (.iconst 0, 1) := wt_op3 wb14m4_prog_13_method_46_code_c0 26 rfl rfl
theorem wp_md_at_d27 : decode prog_13_method_46_code 27 = .ok (.ireturn, 1) := wt_op172 wb14m4_prog_13_method_46_code_c0 27 rfl rfl
theorem wp_md_at_d28 : decode prog_13_method_46_code 28 = .ok (.iload_n 2, 1) := wt_op28 wb14m4_prog_13_method_46_code_c1 0 rfl rfl
theorem wp_md_at_d29 : decode prog_13_method_46_code 29 = .ok (.iconst 0, 1) := wt_op3 wb14m4_prog_13_method_46_code_c1 1 rfl rfl
theorem wp_md_at_d30 : decode prog_13_method_46_code 30 = .ok (.aload_n 0, 1) := wt_op42 wb14m4_prog_13_method_46_code_c1 2 rfl rfl
theorem wp_md_at_d31 : decode prog_13_method_46_code 31 = .ok (.getfield 88, 3) := wt_op180 wb14m4_prog_13_method_46_code_c1 3 rfl rfl rfl
theorem wp_md_at_d34 : decode prog_13_method_46_code 34 = .ok (.iload_n 1, 1) := wt_op27 wb14m4_prog_13_method_46_code_c1 6 rfl rfl
theorem wp_md_at_d35 : decode prog_13_method_46_code 35 = .ok (.iaload, 1) := wt_op46 wb14m4_prog_13_method_46_code_c1 7 rfl rfl
theorem wp_md_at_d36 : decode prog_13_method_46_code 36 = .ok (.iconst 1, 1) := wt_op4 wb14m4_prog_13_method_46_code_c1 8 rfl rfl
theorem wp_md_at_d37 : decode prog_13_method_46_code 37 = .ok (.isub, 1) := wt_op100 wb14m4_prog_13_method_46_code_c1 9 rfl rfl
theorem wp_md_at_d38 : decode prog_13_method_46_code 38 = .ok (.invokestatic 185, 3) := wt_op184 wb14m4_prog_13_method_46_code_c1 10 rfl rfl rfl
theorem wp_md_at_d41 : decode prog_13_method_46_code 41 = .ok (.ifCond .eq 14, 3) := wt_op153 wb14m4_prog_13_method_46_code_c1 13 rfl rfl rfl
theorem wp_md_at_d44 : decode prog_13_method_46_code 44 = .ok (.aload_n 0, 1) := wt_op42 wb14m4_prog_13_method_46_code_c1 16 rfl rfl
theorem wp_md_at_d45 : decode prog_13_method_46_code 45 = .ok (.getfield 91, 3) := wt_op180 wb14m4_prog_13_method_46_code_c1 17 rfl rfl rfl
theorem wp_md_at_d48 : decode prog_13_method_46_code 48 = .ok (.iload_n 1, 1) := wt_op27 wb14m4_prog_13_method_46_code_c1 20 rfl rfl
theorem wp_md_at_d49 : decode prog_13_method_46_code 49 = .ok (.aaload, 1) := wt_op50 wb14m4_prog_13_method_46_code_c1 21 rfl rfl
theorem wp_md_at_d50 : decode prog_13_method_46_code 50 = .ok (.iload_n 2, 1) := wt_op28 wb14m4_prog_13_method_46_code_c1 22 rfl rfl
theorem wp_md_at_d51 : decode prog_13_method_46_code 51 = .ok (.iaload, 1) := wt_op46 wb14m4_prog_13_method_46_code_c1 23 rfl rfl
theorem wp_md_at_d52 : decode prog_13_method_46_code 52 = .ok (.goto 4, 3) := wt_op167 wb14m4_prog_13_method_46_code_c1 24 rfl rfl rfl
theorem wp_md_at_d55 : decode prog_13_method_46_code 55 = .ok (.iconst (-1), 1) := wt_op2 wb14m4_prog_13_method_46_code_c1 27 rfl rfl
theorem wp_md_at_d56 : decode prog_13_method_46_code 56 = .ok (.ireturn, 1) := wt_op172 wb14m4_prog_13_method_46_code_c2 0 rfl rfl
noncomputable def wp_md_at_B19 (n : Nat) (x1 : Int32) (x2 : Int32) (y1 : Int32) (σ : wt_St) : Option (Int32 × wt_St) :=
  (wp_md_bad n y1 (1 : Int32) σ).bind fun q3 =>
  if q3.1 = 0 then
    if x1 < 0 ∨ 8 ≤ Int32.toNatClampNeg x1 then none else
    (wp_md_in n x2 (0 : Int32) ((wt_ga q3.2 253 (Int32.toNatClampNeg x1)) - (1 : Int32)) q3.2).bind fun q6 =>
    if q6.1 = 0 then
      some ((-1 : Int32), q6.2)
    else
      if x1 < 0 ∨ 8 ≤ Int32.toNatClampNeg x1 then none else
      if x2 < 0 ∨ 12 ≤ Int32.toNatClampNeg x2 then none else
      some ((wt_ga q6.2 (255 + Int32.toNatClampNeg x1) (Int32.toNatClampNeg x2)), q6.2)
  else
    some ((0 : Int32), q3.2)
set_option maxRecDepth 100000 in
set_option maxHeartbeats 4000000 in
theorem wp_md_at_B19_ok  {x1 : Int32} {x2 : Int32} {X : wt_X} {n : Nat} {res : Int32 × wt_St} (hE : wt_Ok X prog_13_method_46_code 3 "WornTypeModel" 2 0) (hR : wt_Rt X (some .int) (some res.1) res.2) (hD : ∀ i, 108 ≤ i → i < 321 → wt_dom (wt_xw X) i)  {σ : wt_St} {y1 : Int32} (h : wp_md_at_B19 n x1 x2 y1 σ = some res) : wt_V X 0 σ 19 [some (.ref (wt_ad (wt_xw X) 108)), some (.int x1), some (.int x2)] [.int y1, .ref (wt_ad (wt_xw X) 108)] := by
  unfold wp_md_at_B19 at h
  refine wt_iconst hE (1 : Int32) wp_md_at_d19 wt_ci_1 ?_
  obtain ⟨q3, hq3, h⟩ := wt_bi h
  refine wt_callVi hE [.int y1, .int (1 : Int32)] wt_lm_md_230 wt_ya_md_bad (wp_md_bad_ok hD hq3) (by omega) (hD 108 (by decide) (by decide)) wt_L108 rfl rfl rfl (Nat.le_of_ble_eq_true rfl) (Nat.zero_le _) wp_md_at_d20 (fun hbq3 => ?_)
  refine wt_if_eq hE 28 wp_md_at_d23 rfl (fun c4 => ?_) (fun c4 => ?_)
  · have h := wt_ip c4 h
    refine wt_iload_n hE wp_md_at_d28 rfl ?_
    refine wt_iconst hE (0 : Int32) wp_md_at_d29 wt_ci_0 ?_
    refine wt_aload_n hE wp_md_at_d30 rfl ?_
    refine wt_getr hE (r := 253) wt_lf_md_88 (hD 108 (by decide) (by decide)) wt_L108 rfl wp_md_at_d31 ?_
    refine wt_iload_n hE wp_md_at_d34 rfl ?_
    obtain ⟨g5, h⟩ := wt_gd h
    refine wt_iald hE (hD 253 (by decide) (by decide)) wt_L253 g5 wp_md_at_d35 ?_
    refine wt_iconst hE (1 : Int32) wp_md_at_d36 wt_ci_1 ?_
    refine wt_isub hE wp_md_at_d37 ?_
    obtain ⟨q6, hq6, h⟩ := wt_bi h
    refine wt_callSi hE [.int x2, .int (0 : Int32), .int ((wt_ga q3.2 253 (Int32.toNatClampNeg x1)) - (1 : Int32))] wt_lm_md_185 wt_ya_md_in (wp_md_in_ok hq6) (by omega) rfl rfl (Nat.le_of_ble_eq_true rfl) (Nat.zero_le _) wp_md_at_d38 (fun hbq6 => ?_)
    refine wt_if_eq hE 55 wp_md_at_d41 rfl (fun c7 => ?_) (fun c7 => ?_)
    · have h := wt_ip c7 h
      refine wt_iconst hE (-1 : Int32) wp_md_at_d55 wt_ci_m1 ?_
      cases h
      exact wt_iret hE hR wp_md_at_d56
    · have h := wt_in c7 h
      refine wt_aload_n hE wp_md_at_d44 rfl ?_
      refine wt_getr hE (r := 254) wt_lf_md_91 (hD 108 (by decide) (by decide)) wt_L108 rfl wp_md_at_d45 ?_
      refine wt_iload_n hE wp_md_at_d48 rfl ?_
      obtain ⟨g8, h⟩ := wt_gd h
      have lg8 := wt_lt g8
      refine wt_aald1 hE (hD 254 (by decide) (by decide)) wt_L254 g8 wp_md_at_d49 ?_
      refine wt_iload_n hE wp_md_at_d50 rfl ?_
      obtain ⟨g9, h⟩ := wt_gd h
      refine wt_iald hE (hD _ (by omega) (by omega)) (wt_G255 _ lg8) g9 wp_md_at_d51 ?_
      refine wt_goto hE 56 wp_md_at_d52 rfl ?_
      cases h
      exact wt_iret hE hR wp_md_at_d56
  · have h := wt_in c4 h
    refine wt_iconst hE (0 : Int32) wp_md_at_d26 wt_ci_0 ?_
    cases h
    exact wt_iret hE hR wp_md_at_d27
noncomputable def wp_md_at (n : Nat) (x1 : Int32) (x2 : Int32) (σ : wt_St) : Option (Int32 × wt_St) :=
  (wp_md_isText n x1 (wt_sf σ 108 0 (0 : Int32))).bind fun q1 =>
  if q1.1 = 0 then
    wp_md_at_B19 n x1 x2 (1 : Int32) q1.2
  else
    wp_md_at_B19 n x1 x2 (0 : Int32) q1.2
set_option maxRecDepth 100000 in
set_option maxHeartbeats 4000000 in
theorem wp_md_at_ok {l : Launch} {w : wt_E} {n : Nat} {x1 : Int32} {x2 : Int32} (hD : ∀ i, 108 ≤ i → i < 321 → wt_dom w i) {σ : wt_St} {q : Int32 × wt_St} (h : wp_md_at n x1 x2 σ = some q) : wt_Ctr l w wt_y_md_at prog_13_method_46_code 3 (some .int) 2 [.ref (wt_ad w 108), .int x1, .int x2] σ (some q.1) q.2 := by
  refine wt_ctr wt_pl_md_at rfl (Nat.le_of_ble_eq_true rfl) [some (.ref (wt_ad w 108)), some (.int x1), some (.int x2)] rfl ?_
  intro X hXl hXw hE hR
  subst hXl
  subst hXw
  have hE : wt_Ok X prog_13_method_46_code 3 "WornTypeModel" 2 0 := hE
  unfold wp_md_at at h
  refine wt_aload_n hE wp_md_at_d0 rfl ?_
  refine wt_iconst hE (0 : Int32) wp_md_at_d1 wt_ci_0 ?_
  refine wt_puti hE wt_lf_md_151 (hD 108 (by decide) (by decide)) wt_L108 rfl (fun q hq => by cases hq; rfl) wp_md_at_d2 ?_
  refine wt_aload_n hE wp_md_at_d5 rfl ?_
  refine wt_aload_n hE wp_md_at_d6 rfl ?_
  refine wt_iload_n hE wp_md_at_d7 rfl ?_
  obtain ⟨q1, hq1, h⟩ := wt_bi h
  refine wt_callVi hE [.int x1] wt_lm_md_307 wt_ya_md_isText (wp_md_isText_ok hD hq1) (by omega) (hD 108 (by decide) (by decide)) wt_L108 rfl rfl rfl (Nat.le_of_ble_eq_true rfl) (Nat.zero_le _) wp_md_at_d8 (fun hbq1 => ?_)
  refine wt_if_ne hE 18 wp_md_at_d11 rfl (fun c2 => ?_) (fun c2 => ?_)
  · have h := wt_in c2 h
    refine wt_iconst hE (0 : Int32) wp_md_at_d18 wt_ci_0 ?_
    exact wp_md_at_B19_ok hE hR hD h
  · have h := wt_ip c2 h
    refine wt_iconst hE (1 : Int32) wp_md_at_d14 wt_ci_1 ?_
    refine wt_goto hE 19 wp_md_at_d15 rfl ?_
    exact wp_md_at_B19_ok hE hR hD h
def wb14m4_prog_13_method_6_code_r0 : List (List Nat) := [27, 42, 180, 0, 157, 161, 0, 7, 2, 167, 0, 9, 42, 180, 0, 13, 27, 46, 172] :: []
set_option maxRecDepth 100000 in
theorem wb14m4_prog_13_method_6_code_c0 : wt_cs prog_13_method_6_code 0 wb14m4_prog_13_method_6_code_r0 := wt_cs_of (by decide +kernel)
theorem wp_md_byteAt_d0 : decode prog_13_method_6_code 0 = .ok (.iload_n 1, 1) := wt_op27 wb14m4_prog_13_method_6_code_c0 0 rfl rfl
theorem wp_md_byteAt_d1 : decode prog_13_method_6_code 1 = .ok (.aload_n 0, 1) := wt_op42 wb14m4_prog_13_method_6_code_c0 1 rfl rfl
theorem wp_md_byteAt_d2 : decode prog_13_method_6_code 2 = .ok (.getfield 157, 3) := wt_op180 wb14m4_prog_13_method_6_code_c0 2 rfl rfl rfl
theorem wp_md_byteAt_d5 : decode prog_13_method_6_code 5 = .ok (.if_icmp .lt 7, 3) := wt_op161 wb14m4_prog_13_method_6_code_c0 5 rfl rfl rfl
theorem wp_md_byteAt_d8 : decode prog_13_method_6_code 8 = .ok (.iconst (-1), 1) := wt_op2 wb14m4_prog_13_method_6_code_c0 8 rfl rfl
theorem wp_md_byteAt_d9 : decode prog_13_method_6_code 9 = .ok (.goto 9, 3) := wt_op167 wb14m4_prog_13_method_6_code_c0 9 rfl rfl rfl
theorem wp_md_byteAt_d12 : decode prog_13_method_6_code 12 = .ok (.aload_n 0, 1) := wt_op42 wb14m4_prog_13_method_6_code_c0 12 rfl rfl
theorem wp_md_byteAt_d13 : decode prog_13_method_6_code 13 = .ok (.getfield 13, 3) := wt_op180 wb14m4_prog_13_method_6_code_c0 13 rfl rfl rfl
theorem wp_md_byteAt_d16 : decode prog_13_method_6_code 16 = .ok (.iload_n 1, 1) := wt_op27 wb14m4_prog_13_method_6_code_c0 16 rfl rfl
theorem wp_md_byteAt_d17 : decode prog_13_method_6_code 17 = .ok (.iaload, 1) := wt_op46 wb14m4_prog_13_method_6_code_c0 17 rfl rfl
theorem wp_md_byteAt_d18 : decode prog_13_method_6_code 18 = .ok (.ireturn, 1) := wt_op172 wb14m4_prog_13_method_6_code_c0 18 rfl rfl
noncomputable def wp_md_byteAt (n : Nat) (x1 : Int32) (σ : wt_St) : Option (Int32 × wt_St) :=
  if x1 < (wt_gf σ 108 2) then
    if x1 < 0 ∨ 500 ≤ Int32.toNatClampNeg x1 then none else
    some ((wt_ga σ 109 (Int32.toNatClampNeg x1)), σ)
  else
    some ((-1 : Int32), σ)
set_option maxRecDepth 100000 in
set_option maxHeartbeats 4000000 in
theorem wp_md_byteAt_ok {l : Launch} {w : wt_E} {n : Nat} {x1 : Int32} (hD : ∀ i, 108 ≤ i → i < 321 → wt_dom w i) {σ : wt_St} {q : Int32 × wt_St} (h : wp_md_byteAt n x1 σ = some q) : wt_Ctr l w wt_y_md_byteAt prog_13_method_6_code 2 (some .int) 0 [.ref (wt_ad w 108), .int x1] σ (some q.1) q.2 := by
  refine wt_ctr wt_pl_md_byteAt rfl (Nat.le_of_ble_eq_true rfl) [some (.ref (wt_ad w 108)), some (.int x1)] rfl ?_
  intro X hXl hXw hE hR
  subst hXl
  subst hXw
  have hE : wt_Ok X prog_13_method_6_code 2 "WornTypeModel" 0 0 := hE
  unfold wp_md_byteAt at h
  refine wt_iload_n hE wp_md_byteAt_d0 rfl ?_
  refine wt_aload_n hE wp_md_byteAt_d1 rfl ?_
  refine wt_geti hE wt_lf_md_157 (hD 108 (by decide) (by decide)) wt_L108 rfl wp_md_byteAt_d2 ?_
  refine wt_icmp_lt hE 12 wp_md_byteAt_d5 rfl (fun c1 => ?_) (fun c1 => ?_)
  · have h := wt_ip c1 h
    refine wt_aload_n hE wp_md_byteAt_d12 rfl ?_
    refine wt_getr hE (r := 109) wt_lf_md_13 (hD 108 (by decide) (by decide)) wt_L108 rfl wp_md_byteAt_d13 ?_
    refine wt_iload_n hE wp_md_byteAt_d16 rfl ?_
    obtain ⟨g2, h⟩ := wt_gd h
    refine wt_iald hE (hD 109 (by decide) (by decide)) wt_L109 g2 wp_md_byteAt_d17 ?_
    cases h
    exact wt_iret hE hR wp_md_byteAt_d18
  · have h := wt_in c1 h
    refine wt_iconst hE (-1 : Int32) wp_md_byteAt_d8 wt_ci_m1 ?_
    refine wt_goto hE 18 wp_md_byteAt_d9 rfl ?_
    cases h
    exact wt_iret hE hR wp_md_byteAt_d18
def wb14m4_prog_13_method_7_code_r0 : List (List Nat) := [42, 42, 180, 0, 160, 182, 0, 163, 16, 32, 160, 0, 16, 42, 89, 180, 0, 160, 4, 96, 181, 0, 160, 167, 255, 233, 177] :: []
set_option maxRecDepth 100000 in
theorem wb14m4_prog_13_method_7_code_c0 : wt_cs prog_13_method_7_code 0 wb14m4_prog_13_method_7_code_r0 := wt_cs_of (by decide +kernel)
theorem wp_md_blanks_d0 : decode prog_13_method_7_code 0 = .ok (.aload_n 0, 1) := wt_op42 wb14m4_prog_13_method_7_code_c0 0 rfl rfl
theorem wp_md_blanks_d1 : decode prog_13_method_7_code 1 = .ok (.aload_n 0, 1) := wt_op42 wb14m4_prog_13_method_7_code_c0 1 rfl rfl
theorem wp_md_blanks_d2 : decode prog_13_method_7_code 2 = .ok (.getfield 160, 3) := wt_op180 wb14m4_prog_13_method_7_code_c0 2 rfl rfl rfl
theorem wp_md_blanks_d5 : decode prog_13_method_7_code 5 = .ok (.invokevirtual 163, 3) := wt_op182 wb14m4_prog_13_method_7_code_c0 5 rfl rfl rfl
theorem wp_md_blanks_d8 : decode prog_13_method_7_code 8 = .ok (.bipush 32, 2) := wt_op16 wb14m4_prog_13_method_7_code_c0 8 rfl rfl rfl
theorem wp_md_blanks_d10 : decode prog_13_method_7_code 10 = .ok (.if_icmp .ne 16, 3) := wt_op160 wb14m4_prog_13_method_7_code_c0 10 rfl rfl rfl
theorem wp_md_blanks_d13 : decode prog_13_method_7_code 13 = .ok (.aload_n 0, 1) := wt_op42 wb14m4_prog_13_method_7_code_c0 13 rfl rfl
theorem wp_md_blanks_d14 : decode prog_13_method_7_code 14 = .ok (.dup, 1) := wt_op89 wb14m4_prog_13_method_7_code_c0 14 rfl rfl
theorem wp_md_blanks_d15 : decode prog_13_method_7_code 15 = .ok (.getfield 160, 3) := wt_op180 wb14m4_prog_13_method_7_code_c0 15 rfl rfl rfl
theorem wp_md_blanks_d18 : decode prog_13_method_7_code 18 = .ok (.iconst 1, 1) := wt_op4 wb14m4_prog_13_method_7_code_c0 18 rfl rfl
theorem wp_md_blanks_d19 : decode prog_13_method_7_code 19 = .ok (.iadd, 1) := wt_op96 wb14m4_prog_13_method_7_code_c0 19 rfl rfl
theorem wp_md_blanks_d20 : decode prog_13_method_7_code 20 = .ok (.putfield 160, 3) := wt_op181 wb14m4_prog_13_method_7_code_c0 20 rfl rfl rfl
theorem wp_md_blanks_d23 : decode prog_13_method_7_code 23 = .ok (.goto (-23), 3) := wt_op167 wb14m4_prog_13_method_7_code_c0 23 rfl rfl rfl
theorem wp_md_blanks_d26 : decode prog_13_method_7_code 26 = .ok (.return_, 1) := wt_op177 wb14m4_prog_13_method_7_code_c0 26 rfl rfl
noncomputable def wp_md_blanks_B0 (n : Nat) (K0 : wt_St → Option (wt_St)) (s : wt_St) : Option (wt_St) :=
  (wp_md_byteAt n (wt_gf s 108 4) s).bind fun q1 =>
  if q1.1 = (32 : Int32) then
    K0 (wt_sf q1.2 108 4 ((wt_gf q1.2 108 4) + (1 : Int32)))
  else
    some q1.2
set_option maxRecDepth 100000 in
set_option maxHeartbeats 4000000 in
theorem wp_md_blanks_B0_ok  {X : wt_X} {n : Nat} {res : wt_St} (hE : wt_Ok X prog_13_method_7_code 1 "WornTypeModel" 1 0) (hR : wt_Rt X none none res) (hD : ∀ i, 108 ≤ i → i < 321 → wt_dom (wt_xw X) i)  {K0 : wt_St → Option (wt_St)} (hK0 : ∀ s : wt_St, K0 s = some res → wt_V X 0 s 0 [some (.ref (wt_ad (wt_xw X) 108))] []) {s : wt_St} (h : wp_md_blanks_B0 n K0 s = some res) : wt_V X 0 s 0 [some (.ref (wt_ad (wt_xw X) 108))] [] := by
  unfold wp_md_blanks_B0 at h
  refine wt_aload_n hE wp_md_blanks_d0 rfl ?_
  refine wt_aload_n hE wp_md_blanks_d1 rfl ?_
  refine wt_geti hE wt_lf_md_160 (hD 108 (by decide) (by decide)) wt_L108 rfl wp_md_blanks_d2 ?_
  obtain ⟨q1, hq1, h⟩ := wt_bi h
  refine wt_callVi hE [.int (wt_gf s 108 4)] wt_lm_md_163 wt_ya_md_byteAt (wp_md_byteAt_ok hD hq1) (by omega) (hD 108 (by decide) (by decide)) wt_L108 rfl rfl rfl (Nat.le_of_ble_eq_true rfl) (Nat.zero_le _) wp_md_blanks_d5 (fun hbq1 => ?_)
  refine wt_bipush hE (32 : Int32) wp_md_blanks_d8 wt_cb_32 ?_
  refine wt_icmp_ne hE 26 wp_md_blanks_d10 rfl (fun c2 => ?_) (fun c2 => ?_)
  · have h := wt_in c2 h
    cases h
    exact wt_vret hE hR wp_md_blanks_d26
  · have h := wt_ip c2 h
    refine wt_aload_n hE wp_md_blanks_d13 rfl ?_
    refine wt_dup hE wp_md_blanks_d14 rfl ?_
    refine wt_geti hE wt_lf_md_160 (hD 108 (by decide) (by decide)) wt_L108 rfl wp_md_blanks_d15 ?_
    refine wt_iconst hE (1 : Int32) wp_md_blanks_d18 wt_ci_1 ?_
    refine wt_iadd hE wp_md_blanks_d19 ?_
    refine wt_puti hE wt_lf_md_160 (hD 108 (by decide) (by decide)) wt_L108 rfl (fun q hq => by cases hq; rfl) wp_md_blanks_d20 ?_
    refine wt_goto hE 0 wp_md_blanks_d23 rfl ?_
    exact hK0 (wt_sf q1.2 108 4 ((wt_gf q1.2 108 4) + (1 : Int32))) h
noncomputable def wp_md_blanks (n : Nat) (σ : wt_St) : Option (wt_St) :=
  wt_it (wp_md_blanks_B0 n) n σ
set_option maxRecDepth 100000 in
set_option maxHeartbeats 4000000 in
theorem wp_md_blanks_ok {l : Launch} {w : wt_E} {n : Nat} (hD : ∀ i, 108 ≤ i → i < 321 → wt_dom w i) {σ : wt_St} {q : wt_St} (h : wp_md_blanks n σ = some q) : wt_Ctr l w wt_y_md_blanks prog_13_method_7_code 1 none 1 [.ref (wt_ad w 108)] σ none q := by
  refine wt_ctr wt_pl_md_blanks rfl (Nat.le_of_ble_eq_true rfl) [some (.ref (wt_ad w 108))] rfl ?_
  intro X hXl hXw hE hR
  subst hXl
  subst hXw
  have hE : wt_Ok X prog_13_method_7_code 1 "WornTypeModel" 1 0 := hE
  unfold wp_md_blanks at h
  exact wt_it_ind (fun z => wt_V X 0 z 0 [some (.ref (wt_ad (wt_xw X) 108))] []) (fun K hK z h => wp_md_blanks_B0_ok hE hR hD hK h) n σ h
def wb14m4_prog_13_method_20_code_r0 : List (List Nat) := [16, 13, 26, 104, 27, 96, 172] :: []
set_option maxRecDepth 100000 in
theorem wb14m4_prog_13_method_20_code_c0 : wt_cs prog_13_method_20_code 0 wb14m4_prog_13_method_20_code_r0 := wt_cs_of (by decide +kernel)
theorem wp_md_cell_d0 : decode prog_13_method_20_code 0 = .ok (.bipush 13, 2) := wt_op16 wb14m4_prog_13_method_20_code_c0 0 rfl rfl rfl
theorem wp_md_cell_d2 : decode prog_13_method_20_code 2 = .ok (.iload_n 0, 1) := wt_op26 wb14m4_prog_13_method_20_code_c0 2 rfl rfl
theorem wp_md_cell_d3 : decode prog_13_method_20_code 3 = .ok (.imul, 1) := wt_op104 wb14m4_prog_13_method_20_code_c0 3 rfl rfl
theorem wp_md_cell_d4 : decode prog_13_method_20_code 4 = .ok (.iload_n 1, 1) := wt_op27 wb14m4_prog_13_method_20_code_c0 4 rfl rfl
theorem wp_md_cell_d5 : decode prog_13_method_20_code 5 = .ok (.iadd, 1) := wt_op96 wb14m4_prog_13_method_20_code_c0 5 rfl rfl
theorem wp_md_cell_d6 : decode prog_13_method_20_code 6 = .ok (.ireturn, 1) := wt_op172 wb14m4_prog_13_method_20_code_c0 6 rfl rfl
noncomputable def wp_md_cell (n : Nat) (x0 : Int32) (x1 : Int32) (σ : wt_St) : Option (Int32 × wt_St) :=
  some ((((13 : Int32) * x0) + x1), σ)
set_option maxRecDepth 100000 in
set_option maxHeartbeats 4000000 in
theorem wp_md_cell_ok {l : Launch} {w : wt_E} {n : Nat} {x0 : Int32} {x1 : Int32} {σ : wt_St} {q : Int32 × wt_St} (h : wp_md_cell n x0 x1 σ = some q) : wt_Ctr l w wt_y_md_cell prog_13_method_20_code 2 (some .int) 0 [.int x0, .int x1] σ (some q.1) q.2 := by
  refine wt_ctr wt_pl_md_cell rfl (Nat.le_of_ble_eq_true rfl) [some (.int x0), some (.int x1)] rfl ?_
  intro X hXl hXw hE hR
  subst hXl
  subst hXw
  have hE : wt_Ok X prog_13_method_20_code 2 "WornTypeModel" 0 0 := hE
  unfold wp_md_cell at h
  refine wt_bipush hE (13 : Int32) wp_md_cell_d0 wt_cb_13 ?_
  refine wt_iload_n hE wp_md_cell_d2 rfl ?_
  refine wt_imul hE wp_md_cell_d3 ?_
  refine wt_iload_n hE wp_md_cell_d4 rfl ?_
  refine wt_iadd hE wp_md_cell_d5 ?_
  cases h
  exact wt_iret hE hR wp_md_cell_d6
def wb14m4_prog_13_method_35_code_r0 : List (List Nat) := [3, 60, 27, 16, 26, 162, 0, 16, 42, 180, 0, 115, 27, 3, 79, 132, 1, 1, 167, 255, 240, 177] :: []
set_option maxRecDepth 100000 in
theorem wb14m4_prog_13_method_35_code_c0 : wt_cs prog_13_method_35_code 0 wb14m4_prog_13_method_35_code_r0 := wt_cs_of (by decide +kernel)
theorem wp_md_needsNone_d0 : decode prog_13_method_35_code 0 = .ok (.iconst 0, 1) := wt_op3 wb14m4_prog_13_method_35_code_c0 0 rfl rfl
theorem wp_md_needsNone_d1 : decode prog_13_method_35_code 1 = .ok (.istore_n 1, 1) := wt_op60 wb14m4_prog_13_method_35_code_c0 1 rfl rfl
theorem wp_md_needsNone_d2 : decode prog_13_method_35_code 2 = .ok (.iload_n 1, 1) := wt_op27 wb14m4_prog_13_method_35_code_c0 2 rfl rfl
theorem wp_md_needsNone_d3 : decode prog_13_method_35_code 3 = .ok (.bipush 26, 2) := wt_op16 wb14m4_prog_13_method_35_code_c0 3 rfl rfl rfl
theorem wp_md_needsNone_d5 : decode prog_13_method_35_code 5 = .ok (.if_icmp .ge 16, 3) := wt_op162 wb14m4_prog_13_method_35_code_c0 5 rfl rfl rfl
theorem wp_md_needsNone_d8 : decode prog_13_method_35_code 8 = .ok (.aload_n 0, 1) := wt_op42 wb14m4_prog_13_method_35_code_c0 8 rfl rfl
theorem wp_md_needsNone_d9 : decode prog_13_method_35_code 9 = .ok (.getfield 115, 3) := wt_op180 wb14m4_prog_13_method_35_code_c0 9 rfl rfl rfl
theorem wp_md_needsNone_d12 : decode prog_13_method_35_code 12 = .ok (.iload_n 1, 1) := wt_op27 wb14m4_prog_13_method_35_code_c0 12 rfl rfl
theorem wp_md_needsNone_d13 : decode prog_13_method_35_code 13 = .ok (.iconst 0, 1) := wt_op3 wb14m4_prog_13_method_35_code_c0 13 rfl rfl
theorem wp_md_needsNone_d14 : decode prog_13_method_35_code 14 = .ok (.iastore, 1) := wt_op79 wb14m4_prog_13_method_35_code_c0 14 rfl rfl
theorem wp_md_needsNone_d15 : decode prog_13_method_35_code 15 = .ok (.iinc 1 1, 3) := wt_op132 wb14m4_prog_13_method_35_code_c0 15 rfl rfl rfl
theorem wp_md_needsNone_d18 : decode prog_13_method_35_code 18 = .ok (.goto (-16), 3) := wt_op167 wb14m4_prog_13_method_35_code_c0 18 rfl rfl rfl
theorem wp_md_needsNone_d21 : decode prog_13_method_35_code 21 = .ok (.return_, 1) := wt_op177 wb14m4_prog_13_method_35_code_c0 21 rfl rfl
noncomputable def wp_md_needsNone_B2 (n : Nat) (K2 : Int32 × wt_St → Option (wt_St)) (s : Int32 × wt_St) : Option (wt_St) :=
  if (26 : Int32) ≤ s.1 then
    some s.2
  else
    if s.1 < 0 ∨ 26 ≤ Int32.toNatClampNeg s.1 then none else
    K2 ((s.1 + (1 : Int32)), (wt_sa s.2 287 (Int32.toNatClampNeg s.1) (0 : Int32)))
set_option maxRecDepth 100000 in
set_option maxHeartbeats 4000000 in
theorem wp_md_needsNone_B2_ok  {X : wt_X} {n : Nat} {res : wt_St} (hE : wt_Ok X prog_13_method_35_code 2 "WornTypeModel" 0 0) (hR : wt_Rt X none none res) (hD : ∀ i, 108 ≤ i → i < 321 → wt_dom (wt_xw X) i)  {K2 : Int32 × wt_St → Option (wt_St)} (hK2 : ∀ s : Int32 × wt_St, K2 s = some res → wt_V X 0 s.2 2 [some (.ref (wt_ad (wt_xw X) 108)), some (.int s.1)] []) {s : Int32 × wt_St} (h : wp_md_needsNone_B2 n K2 s = some res) : wt_V X 0 s.2 2 [some (.ref (wt_ad (wt_xw X) 108)), some (.int s.1)] [] := by
  unfold wp_md_needsNone_B2 at h
  refine wt_iload_n hE wp_md_needsNone_d2 rfl ?_
  refine wt_bipush hE (26 : Int32) wp_md_needsNone_d3 wt_cb_26 ?_
  refine wt_icmp_ge hE 21 wp_md_needsNone_d5 rfl (fun c1 => ?_) (fun c1 => ?_)
  · have h := wt_ip c1 h
    cases h
    exact wt_vret hE hR wp_md_needsNone_d21
  · have h := wt_in c1 h
    refine wt_aload_n hE wp_md_needsNone_d8 rfl ?_
    refine wt_getr hE (r := 287) wt_lf_md_115 (hD 108 (by decide) (by decide)) wt_L108 rfl wp_md_needsNone_d9 ?_
    refine wt_iload_n hE wp_md_needsNone_d12 rfl ?_
    refine wt_iconst hE (0 : Int32) wp_md_needsNone_d13 wt_ci_0 ?_
    obtain ⟨g2, h⟩ := wt_gd h
    refine wt_iast hE (hD 287 (by decide) (by decide)) wt_L287 g2 wp_md_needsNone_d14 ?_
    refine wt_iinc hE (s.1 + (1 : Int32)) [some (.ref (wt_ad (wt_xw X) 108)), some (.int (s.1 + (1 : Int32)))] wp_md_needsNone_d15 (by decide) rfl rfl rfl ?_
    refine wt_goto hE 2 wp_md_needsNone_d18 rfl ?_
    exact hK2 ((s.1 + (1 : Int32)), (wt_sa s.2 287 (Int32.toNatClampNeg s.1) (0 : Int32))) h
noncomputable def wp_md_needsNone (n : Nat) (σ : wt_St) : Option (wt_St) :=
  wt_it (wp_md_needsNone_B2 n) n ((0 : Int32), σ)
set_option maxRecDepth 100000 in
set_option maxHeartbeats 4000000 in
theorem wp_md_needsNone_ok {l : Launch} {w : wt_E} {n : Nat} (hD : ∀ i, 108 ≤ i → i < 321 → wt_dom w i) {σ : wt_St} {q : wt_St} (h : wp_md_needsNone n σ = some q) : wt_Ctr l w wt_y_md_needsNone prog_13_method_35_code 2 none 0 [.ref (wt_ad w 108)] σ none q := by
  refine wt_ctr wt_pl_md_needsNone rfl (Nat.le_of_ble_eq_true rfl) [some (.ref (wt_ad w 108)), none] rfl ?_
  intro X hXl hXw hE hR
  subst hXl
  subst hXw
  have hE : wt_Ok X prog_13_method_35_code 2 "WornTypeModel" 0 0 := hE
  unfold wp_md_needsNone at h
  refine wt_iconst hE (0 : Int32) wp_md_needsNone_d0 wt_ci_0 ?_
  refine wt_istore_n hE [some (.ref (wt_ad (wt_xw X) 108)), some (.int (0 : Int32))] wp_md_needsNone_d1 (by decide) rfl ?_
  exact wt_it_ind (fun z => wt_V X 0 z.2 2 [some (.ref (wt_ad (wt_xw X) 108)), some (.int z.1)] []) (fun K hK z h => wp_md_needsNone_B2_ok hE hR hD hK h) n ((0 : Int32), σ) h
def wb14m4_prog_13_method_36_code_r1 : List (List Nat) := [79, 132, 2, 1, 167, 255, 226, 177] :: []
def wb14m4_prog_13_method_36_code_r0 : List (List Nat) := [3, 61, 28, 42, 180, 0, 65, 27, 46, 162, 0, 26, 42, 180, 0, 115, 42, 180, 0, 85, 27, 50, 28, 46, 92, 46, 4, 96] :: wb14m4_prog_13_method_36_code_r1
set_option maxRecDepth 100000 in
theorem wb14m4_prog_13_method_36_code_c0 : wt_cs prog_13_method_36_code 0 wb14m4_prog_13_method_36_code_r0 := wt_cs_of (by decide +kernel)
theorem wb14m4_prog_13_method_36_code_c1 : wt_cs prog_13_method_36_code 28 wb14m4_prog_13_method_36_code_r1 := wt_cs_tl (m := 28) wb14m4_prog_13_method_36_code_c0 rfl rfl
theorem wp_md_needsWord_d0 : decode prog_13_method_36_code 0 = .ok (.iconst 0, 1) := wt_op3 wb14m4_prog_13_method_36_code_c0 0 rfl rfl
theorem wp_md_needsWord_d1 : decode prog_13_method_36_code 1 = .ok (.istore_n 2, 1) := wt_op61 wb14m4_prog_13_method_36_code_c0 1 rfl rfl
theorem wp_md_needsWord_d2 : decode prog_13_method_36_code 2 = .ok (.iload_n 2, 1) := wt_op28 wb14m4_prog_13_method_36_code_c0 2 rfl rfl
theorem wp_md_needsWord_d3 : decode prog_13_method_36_code 3 = .ok (.aload_n 0, 1) := wt_op42 wb14m4_prog_13_method_36_code_c0 3 rfl rfl
theorem wp_md_needsWord_d4 : decode prog_13_method_36_code 4 = .ok (.getfield 65, 3) := wt_op180 wb14m4_prog_13_method_36_code_c0 4 rfl rfl rfl
theorem wp_md_needsWord_d7 : decode prog_13_method_36_code 7 = .ok (.iload_n 1, 1) := wt_op27 wb14m4_prog_13_method_36_code_c0 7 rfl rfl
theorem wp_md_needsWord_d8 : decode prog_13_method_36_code 8 = .ok (.iaload, 1) := wt_op46 wb14m4_prog_13_method_36_code_c0 8 rfl rfl
theorem wp_md_needsWord_d9 : decode prog_13_method_36_code 9 = .ok (.if_icmp .ge 26, 3) := wt_op162 wb14m4_prog_13_method_36_code_c0 9 rfl rfl rfl
theorem wp_md_needsWord_d12 : decode prog_13_method_36_code 12 = .ok (.aload_n 0, 1) := wt_op42 wb14m4_prog_13_method_36_code_c0 12 rfl rfl
theorem wp_md_needsWord_d13 : decode prog_13_method_36_code 13 = .ok (.getfield 115, 3) := wt_op180 wb14m4_prog_13_method_36_code_c0 13 rfl rfl rfl
theorem wp_md_needsWord_d16 : decode prog_13_method_36_code 16 = .ok (.aload_n 0, 1) := wt_op42 wb14m4_prog_13_method_36_code_c0 16 rfl rfl
theorem wp_md_needsWord_d17 : decode prog_13_method_36_code 17 = .ok (.getfield 85, 3) := wt_op180 wb14m4_prog_13_method_36_code_c0 17 rfl rfl rfl
theorem wp_md_needsWord_d20 : decode prog_13_method_36_code 20 = .ok (.iload_n 1, 1) := wt_op27 wb14m4_prog_13_method_36_code_c0 20 rfl rfl
theorem wp_md_needsWord_d21 : decode prog_13_method_36_code 21 = .ok (.aaload, 1) := wt_op50 wb14m4_prog_13_method_36_code_c0 21 rfl rfl
theorem wp_md_needsWord_d22 : decode prog_13_method_36_code 22 = .ok (.iload_n 2, 1) := wt_op28 wb14m4_prog_13_method_36_code_c0 22 rfl rfl
theorem wp_md_needsWord_d23 : decode prog_13_method_36_code 23 = .ok (.iaload, 1) := wt_op46 wb14m4_prog_13_method_36_code_c0 23 rfl rfl
theorem wp_md_needsWord_d24 : decode prog_13_method_36_code 24 = .ok (.dup2, 1) := wt_op92 wb14m4_prog_13_method_36_code_c0 24 rfl rfl
theorem wp_md_needsWord_d25 : decode prog_13_method_36_code 25 = .ok (.iaload, 1) := wt_op46 wb14m4_prog_13_method_36_code_c0 25 rfl rfl
theorem wp_md_needsWord_d26 : decode prog_13_method_36_code 26 = .ok (.iconst 1, 1) := wt_op4 wb14m4_prog_13_method_36_code_c0 26 rfl rfl
theorem wp_md_needsWord_d27 : decode prog_13_method_36_code 27 = .ok (.iadd, 1) := wt_op96 wb14m4_prog_13_method_36_code_c0 27 rfl rfl
theorem wp_md_needsWord_d28 : decode prog_13_method_36_code 28 = .ok (.iastore, 1) := wt_op79 wb14m4_prog_13_method_36_code_c1 0 rfl rfl
theorem wp_md_needsWord_d29 : decode prog_13_method_36_code 29 = .ok (.iinc 2 1, 3) := wt_op132 wb14m4_prog_13_method_36_code_c1 1 rfl rfl rfl
theorem wp_md_needsWord_d32 : decode prog_13_method_36_code 32 = .ok (.goto (-30), 3) := wt_op167 wb14m4_prog_13_method_36_code_c1 4 rfl rfl rfl
theorem wp_md_needsWord_d35 : decode prog_13_method_36_code 35 = .ok (.return_, 1) := wt_op177 wb14m4_prog_13_method_36_code_c1 7 rfl rfl
noncomputable def wp_md_needsWord_B2 (n : Nat) (x1 : Int32) (K2 : Int32 × wt_St → Option (wt_St)) (s : Int32 × wt_St) : Option (wt_St) :=
  if x1 < 0 ∨ 60 ≤ Int32.toNatClampNeg x1 then none else
  if (wt_ga s.2 126 (Int32.toNatClampNeg x1)) ≤ s.1 then
    some s.2
  else
    if x1 < 0 ∨ 60 ≤ Int32.toNatClampNeg x1 then none else
    if s.1 < 0 ∨ 9 ≤ Int32.toNatClampNeg s.1 then none else
    if (wt_ga s.2 (193 + Int32.toNatClampNeg x1) (Int32.toNatClampNeg s.1)) < 0 ∨ 26 ≤ Int32.toNatClampNeg (wt_ga s.2 (193 + Int32.toNatClampNeg x1) (Int32.toNatClampNeg s.1)) then none else
    if (wt_ga s.2 (193 + Int32.toNatClampNeg x1) (Int32.toNatClampNeg s.1)) < 0 ∨ 26 ≤ Int32.toNatClampNeg (wt_ga s.2 (193 + Int32.toNatClampNeg x1) (Int32.toNatClampNeg s.1)) then none else
    K2 ((s.1 + (1 : Int32)), (wt_sa s.2 287 (Int32.toNatClampNeg (wt_ga s.2 (193 + Int32.toNatClampNeg x1) (Int32.toNatClampNeg s.1))) ((wt_ga s.2 287 (Int32.toNatClampNeg (wt_ga s.2 (193 + Int32.toNatClampNeg x1) (Int32.toNatClampNeg s.1)))) + (1 : Int32))))
set_option maxRecDepth 100000 in
set_option maxHeartbeats 4000000 in
theorem wp_md_needsWord_B2_ok  {x1 : Int32} {X : wt_X} {n : Nat} {res : wt_St} (hE : wt_Ok X prog_13_method_36_code 3 "WornTypeModel" 0 0) (hR : wt_Rt X none none res) (hD : ∀ i, 108 ≤ i → i < 321 → wt_dom (wt_xw X) i)  {K2 : Int32 × wt_St → Option (wt_St)} (hK2 : ∀ s : Int32 × wt_St, K2 s = some res → wt_V X 0 s.2 2 [some (.ref (wt_ad (wt_xw X) 108)), some (.int x1), some (.int s.1)] []) {s : Int32 × wt_St} (h : wp_md_needsWord_B2 n x1 K2 s = some res) : wt_V X 0 s.2 2 [some (.ref (wt_ad (wt_xw X) 108)), some (.int x1), some (.int s.1)] [] := by
  unfold wp_md_needsWord_B2 at h
  refine wt_iload_n hE wp_md_needsWord_d2 rfl ?_
  refine wt_aload_n hE wp_md_needsWord_d3 rfl ?_
  refine wt_getr hE (r := 126) wt_lf_md_65 (hD 108 (by decide) (by decide)) wt_L108 rfl wp_md_needsWord_d4 ?_
  refine wt_iload_n hE wp_md_needsWord_d7 rfl ?_
  obtain ⟨g1, h⟩ := wt_gd h
  refine wt_iald hE (hD 126 (by decide) (by decide)) wt_L126 g1 wp_md_needsWord_d8 ?_
  refine wt_icmp_ge hE 35 wp_md_needsWord_d9 rfl (fun c2 => ?_) (fun c2 => ?_)
  · have h := wt_ip c2 h
    cases h
    exact wt_vret hE hR wp_md_needsWord_d35
  · have h := wt_in c2 h
    refine wt_aload_n hE wp_md_needsWord_d12 rfl ?_
    refine wt_getr hE (r := 287) wt_lf_md_115 (hD 108 (by decide) (by decide)) wt_L108 rfl wp_md_needsWord_d13 ?_
    refine wt_aload_n hE wp_md_needsWord_d16 rfl ?_
    refine wt_getr hE (r := 192) wt_lf_md_85 (hD 108 (by decide) (by decide)) wt_L108 rfl wp_md_needsWord_d17 ?_
    refine wt_iload_n hE wp_md_needsWord_d20 rfl ?_
    obtain ⟨g3, h⟩ := wt_gd h
    have lg3 := wt_lt g3
    refine wt_aald1 hE (hD 192 (by decide) (by decide)) wt_L192 g3 wp_md_needsWord_d21 ?_
    refine wt_iload_n hE wp_md_needsWord_d22 rfl ?_
    obtain ⟨g4, h⟩ := wt_gd h
    refine wt_iald hE (hD _ (by omega) (by omega)) (wt_G193 _ lg3) g4 wp_md_needsWord_d23 ?_
    refine wt_dup2 hE wp_md_needsWord_d24 rfl rfl ?_
    obtain ⟨g5, h⟩ := wt_gd h
    refine wt_iald hE (hD 287 (by decide) (by decide)) wt_L287 g5 wp_md_needsWord_d25 ?_
    refine wt_iconst hE (1 : Int32) wp_md_needsWord_d26 wt_ci_1 ?_
    refine wt_iadd hE wp_md_needsWord_d27 ?_
    obtain ⟨g6, h⟩ := wt_gd h
    refine wt_iast hE (hD 287 (by decide) (by decide)) wt_L287 g6 wp_md_needsWord_d28 ?_
    refine wt_iinc hE (s.1 + (1 : Int32)) [some (.ref (wt_ad (wt_xw X) 108)), some (.int x1), some (.int (s.1 + (1 : Int32)))] wp_md_needsWord_d29 (by decide) rfl rfl rfl ?_
    refine wt_goto hE 2 wp_md_needsWord_d32 rfl ?_
    exact hK2 ((s.1 + (1 : Int32)), (wt_sa s.2 287 (Int32.toNatClampNeg (wt_ga s.2 (193 + Int32.toNatClampNeg x1) (Int32.toNatClampNeg s.1))) ((wt_ga s.2 287 (Int32.toNatClampNeg (wt_ga s.2 (193 + Int32.toNatClampNeg x1) (Int32.toNatClampNeg s.1)))) + (1 : Int32)))) h
noncomputable def wp_md_needsWord (n : Nat) (x1 : Int32) (σ : wt_St) : Option (wt_St) :=
  wt_it (wp_md_needsWord_B2 n x1) n ((0 : Int32), σ)
set_option maxRecDepth 100000 in
set_option maxHeartbeats 4000000 in
theorem wp_md_needsWord_ok {l : Launch} {w : wt_E} {n : Nat} {x1 : Int32} (hD : ∀ i, 108 ≤ i → i < 321 → wt_dom w i) {σ : wt_St} {q : wt_St} (h : wp_md_needsWord n x1 σ = some q) : wt_Ctr l w wt_y_md_needsWord prog_13_method_36_code 3 none 0 [.ref (wt_ad w 108), .int x1] σ none q := by
  refine wt_ctr wt_pl_md_needsWord rfl (Nat.le_of_ble_eq_true rfl) [some (.ref (wt_ad w 108)), some (.int x1), none] rfl ?_
  intro X hXl hXw hE hR
  subst hXl
  subst hXw
  have hE : wt_Ok X prog_13_method_36_code 3 "WornTypeModel" 0 0 := hE
  unfold wp_md_needsWord at h
  refine wt_iconst hE (0 : Int32) wp_md_needsWord_d0 wt_ci_0 ?_
  refine wt_istore_n hE [some (.ref (wt_ad (wt_xw X) 108)), some (.int x1), some (.int (0 : Int32))] wp_md_needsWord_d1 (by decide) rfl ?_
  exact wt_it_ind (fun z => wt_V X 0 z.2 2 [some (.ref (wt_ad (wt_xw X) 108)), some (.int x1), some (.int z.1)] []) (fun K hK z h => wp_md_needsWord_B2_ok hE hR hD hK h) n ((0 : Int32), σ) h
def wb14m4_prog_13_method_37_code_r1 : List (List Nat) := [132, 2, 1, 167, 255, 231, 177] :: []
def wb14m4_prog_13_method_37_code_r0 : List (List Nat) := [42, 182, 1, 27, 3, 61, 28, 42, 180, 0, 88, 27, 46, 162, 0, 21, 42, 42, 180, 0, 91, 27, 50, 28, 46, 182, 1, 30] :: wb14m4_prog_13_method_37_code_r1
set_option maxRecDepth 100000 in
theorem wb14m4_prog_13_method_37_code_c0 : wt_cs prog_13_method_37_code 0 wb14m4_prog_13_method_37_code_r0 := wt_cs_of (by decide +kernel)
theorem wb14m4_prog_13_method_37_code_c1 : wt_cs prog_13_method_37_code 28 wb14m4_prog_13_method_37_code_r1 := wt_cs_tl (m := 28) wb14m4_prog_13_method_37_code_c0 rfl rfl
theorem wp_md_needsText_d0 : decode prog_13_method_37_code 0 = .ok (.aload_n 0, 1) := wt_op42 wb14m4_prog_13_method_37_code_c0 0 rfl rfl
theorem wp_md_needsText_d1 : decode prog_13_method_37_code 1 = .ok (.invokevirtual 283, 3) := wt_op182 wb14m4_prog_13_method_37_code_c0 1 rfl rfl rfl
theorem wp_md_needsText_d4 : decode prog_13_method_37_code 4 = .ok (.iconst 0, 1) := wt_op3 wb14m4_prog_13_method_37_code_c0 4 rfl rfl
theorem wp_md_needsText_d5 : decode prog_13_method_37_code 5 = .ok (.istore_n 2, 1) := wt_op61 wb14m4_prog_13_method_37_code_c0 5 rfl rfl
theorem wp_md_needsText_d6 : decode prog_13_method_37_code 6 = .ok (.iload_n 2, 1) := wt_op28 wb14m4_prog_13_method_37_code_c0 6 rfl rfl
theorem wp_md_needsText_d7 : decode prog_13_method_37_code 7 = .ok (.aload_n 0, 1) := wt_op42 wb14m4_prog_13_method_37_code_c0 7 rfl rfl
theorem wp_md_needsText_d8 : decode prog_13_method_37_code 8 = .ok (.getfield 88, 3) := wt_op180 wb14m4_prog_13_method_37_code_c0 8 rfl rfl rfl
theorem wp_md_needsText_d11 : decode prog_13_method_37_code 11 = .ok (.iload_n 1, 1) := wt_op27 wb14m4_prog_13_method_37_code_c0 11 rfl rfl
theorem wp_md_needsText_d12 : decode prog_13_method_37_code 12 = .ok (.iaload, 1) := wt_op46 wb14m4_prog_13_method_37_code_c0 12 rfl rfl
theorem wp_md_needsText_d13 : decode prog_13_method_37_code 13 = .ok (.if_icmp .ge 21, 3) := wt_op162 wb14m4_prog_13_method_37_code_c0 13 rfl rfl rfl
theorem wp_md_needsText_d16 : decode prog_13_method_37_code 16 = .ok (.aload_n 0, 1) := wt_op42 wb14m4_prog_13_method_37_code_c0 16 rfl rfl
theorem wp_md_needsText_d17 : decode prog_13_method_37_code 17 = .ok (.aload_n 0, 1) := wt_op42 wb14m4_prog_13_method_37_code_c0 17 rfl rfl
theorem wp_md_needsText_d18 : decode prog_13_method_37_code 18 = .ok (.getfield 91, 3) := wt_op180 wb14m4_prog_13_method_37_code_c0 18 rfl rfl rfl
theorem wp_md_needsText_d21 : decode prog_13_method_37_code 21 = .ok (.iload_n 1, 1) := wt_op27 wb14m4_prog_13_method_37_code_c0 21 rfl rfl
theorem wp_md_needsText_d22 : decode prog_13_method_37_code 22 = .ok (.aaload, 1) := wt_op50 wb14m4_prog_13_method_37_code_c0 22 rfl rfl
theorem wp_md_needsText_d23 : decode prog_13_method_37_code 23 = .ok (.iload_n 2, 1) := wt_op28 wb14m4_prog_13_method_37_code_c0 23 rfl rfl
theorem wp_md_needsText_d24 : decode prog_13_method_37_code 24 = .ok (.iaload, 1) := wt_op46 wb14m4_prog_13_method_37_code_c0 24 rfl rfl
theorem wp_md_needsText_d25 : decode prog_13_method_37_code 25 = .ok (.invokevirtual 286, 3) := wt_op182 wb14m4_prog_13_method_37_code_c0 25 rfl rfl rfl
theorem wp_md_needsText_d28 : decode prog_13_method_37_code 28 = .ok (.iinc 2 1, 3) := wt_op132 wb14m4_prog_13_method_37_code_c1 0 rfl rfl rfl
theorem wp_md_needsText_d31 : decode prog_13_method_37_code 31 = .ok (.goto (-25), 3) := wt_op167 wb14m4_prog_13_method_37_code_c1 3 rfl rfl rfl
theorem wp_md_needsText_d34 : decode prog_13_method_37_code 34 = .ok (.return_, 1) := wt_op177 wb14m4_prog_13_method_37_code_c1 6 rfl rfl
noncomputable def wp_md_needsText_B6 (n : Nat) (x1 : Int32) (K6 : Int32 × wt_St → Option (wt_St)) (s : Int32 × wt_St) : Option (wt_St) :=
  if x1 < 0 ∨ 8 ≤ Int32.toNatClampNeg x1 then none else
  if (wt_ga s.2 253 (Int32.toNatClampNeg x1)) ≤ s.1 then
    some s.2
  else
    if x1 < 0 ∨ 8 ≤ Int32.toNatClampNeg x1 then none else
    if s.1 < 0 ∨ 12 ≤ Int32.toNatClampNeg s.1 then none else
    (wp_md_needsWord n (wt_ga s.2 (255 + Int32.toNatClampNeg x1) (Int32.toNatClampNeg s.1)) s.2).bind fun q6 =>
    K6 ((s.1 + (1 : Int32)), q6)
set_option maxRecDepth 100000 in
set_option maxHeartbeats 4000000 in
theorem wp_md_needsText_B6_ok  {x1 : Int32} {X : wt_X} {n : Nat} {res : wt_St} (hE : wt_Ok X prog_13_method_37_code 3 "WornTypeModel" 1 0) (hR : wt_Rt X none none res) (hD : ∀ i, 108 ≤ i → i < 321 → wt_dom (wt_xw X) i)  {K6 : Int32 × wt_St → Option (wt_St)} (hK6 : ∀ s : Int32 × wt_St, K6 s = some res → wt_V X 0 s.2 6 [some (.ref (wt_ad (wt_xw X) 108)), some (.int x1), some (.int s.1)] []) {s : Int32 × wt_St} (h : wp_md_needsText_B6 n x1 K6 s = some res) : wt_V X 0 s.2 6 [some (.ref (wt_ad (wt_xw X) 108)), some (.int x1), some (.int s.1)] [] := by
  unfold wp_md_needsText_B6 at h
  refine wt_iload_n hE wp_md_needsText_d6 rfl ?_
  refine wt_aload_n hE wp_md_needsText_d7 rfl ?_
  refine wt_getr hE (r := 253) wt_lf_md_88 (hD 108 (by decide) (by decide)) wt_L108 rfl wp_md_needsText_d8 ?_
  refine wt_iload_n hE wp_md_needsText_d11 rfl ?_
  obtain ⟨g2, h⟩ := wt_gd h
  refine wt_iald hE (hD 253 (by decide) (by decide)) wt_L253 g2 wp_md_needsText_d12 ?_
  refine wt_icmp_ge hE 34 wp_md_needsText_d13 rfl (fun c3 => ?_) (fun c3 => ?_)
  · have h := wt_ip c3 h
    cases h
    exact wt_vret hE hR wp_md_needsText_d34
  · have h := wt_in c3 h
    refine wt_aload_n hE wp_md_needsText_d16 rfl ?_
    refine wt_aload_n hE wp_md_needsText_d17 rfl ?_
    refine wt_getr hE (r := 254) wt_lf_md_91 (hD 108 (by decide) (by decide)) wt_L108 rfl wp_md_needsText_d18 ?_
    refine wt_iload_n hE wp_md_needsText_d21 rfl ?_
    obtain ⟨g4, h⟩ := wt_gd h
    have lg4 := wt_lt g4
    refine wt_aald1 hE (hD 254 (by decide) (by decide)) wt_L254 g4 wp_md_needsText_d22 ?_
    refine wt_iload_n hE wp_md_needsText_d23 rfl ?_
    obtain ⟨g5, h⟩ := wt_gd h
    refine wt_iald hE (hD _ (by omega) (by omega)) (wt_G255 _ lg4) g5 wp_md_needsText_d24 ?_
    obtain ⟨q6, hq6, h⟩ := wt_bi h
    refine wt_callVv hE [.int (wt_ga s.2 (255 + Int32.toNatClampNeg x1) (Int32.toNatClampNeg s.1))] wt_lm_md_286 wt_ya_md_needsWord (wp_md_needsWord_ok hD hq6) (by omega) (hD 108 (by decide) (by decide)) wt_L108 rfl rfl rfl (Nat.le_of_ble_eq_true rfl) (Nat.zero_le _) wp_md_needsText_d25 ?_
    refine wt_iinc hE (s.1 + (1 : Int32)) [some (.ref (wt_ad (wt_xw X) 108)), some (.int x1), some (.int (s.1 + (1 : Int32)))] wp_md_needsText_d28 (by decide) rfl rfl rfl ?_
    refine wt_goto hE 6 wp_md_needsText_d31 rfl ?_
    exact hK6 ((s.1 + (1 : Int32)), q6) h
noncomputable def wp_md_needsText (n : Nat) (x1 : Int32) (σ : wt_St) : Option (wt_St) :=
  (wp_md_needsNone n σ).bind fun q1 =>
  wt_it (wp_md_needsText_B6 n x1) n ((0 : Int32), q1)
set_option maxRecDepth 100000 in
set_option maxHeartbeats 4000000 in
theorem wp_md_needsText_ok {l : Launch} {w : wt_E} {n : Nat} {x1 : Int32} (hD : ∀ i, 108 ≤ i → i < 321 → wt_dom w i) {σ : wt_St} {q : wt_St} (h : wp_md_needsText n x1 σ = some q) : wt_Ctr l w wt_y_md_needsText prog_13_method_37_code 3 none 1 [.ref (wt_ad w 108), .int x1] σ none q := by
  refine wt_ctr wt_pl_md_needsText rfl (Nat.le_of_ble_eq_true rfl) [some (.ref (wt_ad w 108)), some (.int x1), none] rfl ?_
  intro X hXl hXw hE hR
  subst hXl
  subst hXw
  have hE : wt_Ok X prog_13_method_37_code 3 "WornTypeModel" 1 0 := hE
  unfold wp_md_needsText at h
  refine wt_aload_n hE wp_md_needsText_d0 rfl ?_
  obtain ⟨q1, hq1, h⟩ := wt_bi h
  refine wt_callVv hE [] wt_lm_md_283 wt_ya_md_needsNone (wp_md_needsNone_ok hD hq1) (by omega) (hD 108 (by decide) (by decide)) wt_L108 rfl rfl rfl (Nat.le_of_ble_eq_true rfl) (Nat.zero_le _) wp_md_needsText_d1 ?_
  refine wt_iconst hE (0 : Int32) wp_md_needsText_d4 wt_ci_0 ?_
  refine wt_istore_n hE [some (.ref (wt_ad (wt_xw X) 108)), some (.int x1), some (.int (0 : Int32))] wp_md_needsText_d5 (by decide) rfl ?_
  exact wt_it_ind (fun z => wt_V X 0 z.2 6 [some (.ref (wt_ad (wt_xw X) 108)), some (.int x1), some (.int z.1)] []) (fun K hK z h => wp_md_needsText_B6_ok hE hR hD hK h) n ((0 : Int32), q1) h
def wb14m4_prog_13_method_81_code_r9 : List (List Nat) := [42, 180, 0, 142, 21, 5, 46, 100, 61, 42, 180, 0, 142, 21, 5, 2, 79, 132, 4, 1, 167, 255, 95, 29, 172] :: []
def wb14m4_prog_13_method_81_code_r8 : List (List Nat) := [50, 6, 46, 28, 104, 42, 180, 0, 142, 21, 5, 46, 108, 96, 172, 29, 42, 180, 0, 94, 21, 5, 50, 6, 46, 96, 62, 28] :: wb14m4_prog_13_method_81_code_r9
def wb14m4_prog_13_method_81_code_r7 : List (List Nat) := [21, 5, 54, 5, 132, 6, 1, 167, 255, 179, 42, 180, 0, 142, 21, 5, 46, 28, 164, 0, 25, 29, 42, 180, 0, 94, 21, 5] :: wb14m4_prog_13_method_81_code_r8
def wb14m4_prog_13_method_81_code_r6 : List (List Nat) := [21, 5, 46, 104, 42, 180, 0, 94, 21, 5, 50, 6, 46, 42, 180, 0, 142, 21, 6, 46, 104, 164, 0, 8, 21, 6, 167, 0, 5] :: wb14m4_prog_13_method_81_code_r7
def wb14m4_prog_13_method_81_code_r5 : List (List Nat) := [21, 6, 46, 156, 0, 6, 167, 0, 55, 21, 5, 2, 159, 0, 40, 42, 180, 0, 94, 21, 6, 50, 6, 46, 42, 180, 0, 142] :: wb14m4_prog_13_method_81_code_r6
def wb14m4_prog_13_method_81_code_r4 : List (List Nat) := [21, 4, 42, 180, 1, 12, 162, 0, 158, 2, 54, 5, 3, 54, 6, 21, 6, 42, 180, 1, 12, 162, 0, 74, 42, 180, 0, 142] :: wb14m4_prog_13_method_81_code_r5
def wb14m4_prog_13_method_81_code_r3 : List (List Nat) := [42, 180, 0, 142, 21, 5, 42, 180, 0, 115, 27, 46, 42, 180, 0, 94, 21, 5, 50, 4, 46, 104, 79, 132, 5, 1, 167, 255, 208] :: wb14m4_prog_13_method_81_code_r4
def wb14m4_prog_13_method_81_code_r2 : List (List Nat) := [167, 255, 209, 3, 54, 5, 21, 5, 42, 180, 1, 12, 162, 0, 45, 42, 42, 180, 0, 94, 21, 5, 50, 3, 46, 182, 1, 54] :: wb14m4_prog_13_method_81_code_r3
def wb14m4_prog_13_method_81_code_r1 : List (List Nat) := [184, 0, 227, 46, 2, 160, 0, 17, 42, 180, 0, 50, 27, 21, 5, 184, 0, 227, 46, 167, 0, 4, 3, 96, 61, 132, 5, 1] :: wb14m4_prog_13_method_81_code_r2
def wb14m4_prog_13_method_81_code_r0 : List (List Nat) := [3, 61, 3, 62, 3, 54, 4, 3, 54, 5, 21, 5, 42, 180, 0, 20, 27, 46, 162, 0, 42, 28, 42, 180, 0, 59, 27, 21, 5] :: wb14m4_prog_13_method_81_code_r1
set_option maxRecDepth 100000 in
theorem wb14m4_prog_13_method_81_code_c0 : wt_cs prog_13_method_81_code 0 wb14m4_prog_13_method_81_code_r0 := wt_cs_of (by decide +kernel)
theorem wb14m4_prog_13_method_81_code_c1 : wt_cs prog_13_method_81_code 29 wb14m4_prog_13_method_81_code_r1 := wt_cs_tl (m := 29) wb14m4_prog_13_method_81_code_c0 rfl rfl
theorem wb14m4_prog_13_method_81_code_c2 : wt_cs prog_13_method_81_code 57 wb14m4_prog_13_method_81_code_r2 := wt_cs_tl (m := 28) wb14m4_prog_13_method_81_code_c1 rfl rfl
theorem wb14m4_prog_13_method_81_code_c3 : wt_cs prog_13_method_81_code 85 wb14m4_prog_13_method_81_code_r3 := wt_cs_tl (m := 28) wb14m4_prog_13_method_81_code_c2 rfl rfl
theorem wb14m4_prog_13_method_81_code_c4 : wt_cs prog_13_method_81_code 114 wb14m4_prog_13_method_81_code_r4 := wt_cs_tl (m := 29) wb14m4_prog_13_method_81_code_c3 rfl rfl
theorem wb14m4_prog_13_method_81_code_c5 : wt_cs prog_13_method_81_code 142 wb14m4_prog_13_method_81_code_r5 := wt_cs_tl (m := 28) wb14m4_prog_13_method_81_code_c4 rfl rfl
theorem wb14m4_prog_13_method_81_code_c6 : wt_cs prog_13_method_81_code 170 wb14m4_prog_13_method_81_code_r6 := wt_cs_tl (m := 28) wb14m4_prog_13_method_81_code_c5 rfl rfl
theorem wb14m4_prog_13_method_81_code_c7 : wt_cs prog_13_method_81_code 199 wb14m4_prog_13_method_81_code_r7 := wt_cs_tl (m := 29) wb14m4_prog_13_method_81_code_c6 rfl rfl
theorem wb14m4_prog_13_method_81_code_c8 : wt_cs prog_13_method_81_code 227 wb14m4_prog_13_method_81_code_r8 := wt_cs_tl (m := 28) wb14m4_prog_13_method_81_code_c7 rfl rfl
theorem wb14m4_prog_13_method_81_code_c9 : wt_cs prog_13_method_81_code 255 wb14m4_prog_13_method_81_code_r9 := wt_cs_tl (m := 28) wb14m4_prog_13_method_81_code_c8 rfl rfl
theorem wp_md_boundOf_d0 : decode prog_13_method_81_code 0 = .ok (.iconst 0, 1) := wt_op3 wb14m4_prog_13_method_81_code_c0 0 rfl rfl
theorem wp_md_boundOf_d1 : decode prog_13_method_81_code 1 = .ok (.istore_n 2, 1) := wt_op61 wb14m4_prog_13_method_81_code_c0 1 rfl rfl
theorem wp_md_boundOf_d2 : decode prog_13_method_81_code 2 = .ok (.iconst 0, 1) := wt_op3 wb14m4_prog_13_method_81_code_c0 2 rfl rfl
theorem wp_md_boundOf_d3 : decode prog_13_method_81_code 3 = .ok (.istore_n 3, 1) := wt_op62 wb14m4_prog_13_method_81_code_c0 3 rfl rfl
theorem wp_md_boundOf_d4 : decode prog_13_method_81_code 4 = .ok (.iconst 0, 1) := wt_op3 wb14m4_prog_13_method_81_code_c0 4 rfl rfl
theorem wp_md_boundOf_d5 : decode prog_13_method_81_code 5 = .ok (.istore 4, 2) := wt_op54 wb14m4_prog_13_method_81_code_c0 5 rfl rfl
theorem wp_md_boundOf_d7 : decode prog_13_method_81_code 7 = .ok (.iconst 0, 1) := wt_op3 wb14m4_prog_13_method_81_code_c0 7 rfl rfl
theorem wp_md_boundOf_d8 : decode prog_13_method_81_code 8 = .ok (.istore 5, 2) := wt_op54 wb14m4_prog_13_method_81_code_c0 8 rfl rfl
theorem wp_md_boundOf_d10 : decode prog_13_method_81_code 10 = .ok (.iload 5, 2) := wt_op21 wb14m4_prog_13_method_81_code_c0 10 rfl rfl
theorem wp_md_boundOf_d12 : decode prog_13_method_81_code 12 = .ok (.aload_n 0, 1) := wt_op42 wb14m4_prog_13_method_81_code_c0 12 rfl rfl
theorem wp_md_boundOf_d13 : decode prog_13_method_81_code 13 = .ok (.getfield 20, 3) := wt_op180 wb14m4_prog_13_method_81_code_c0 13 rfl rfl rfl
theorem wp_md_boundOf_d16 : decode prog_13_method_81_code 16 = .ok (.iload_n 1, 1) := wt_op27 wb14m4_prog_13_method_81_code_c0 16 rfl rfl
theorem wp_md_boundOf_d17 : decode prog_13_method_81_code 17 = .ok (.iaload, 1) := wt_op46 wb14m4_prog_13_method_81_code_c0 17 rfl rfl
theorem wp_md_boundOf_d18 : decode prog_13_method_81_code 18 = .ok (.if_icmp .ge 42, 3) := wt_op162 wb14m4_prog_13_method_81_code_c0 18 rfl rfl rfl
theorem wp_md_boundOf_d21 : decode prog_13_method_81_code 21 = .ok (.iload_n 2, 1) := wt_op28 wb14m4_prog_13_method_81_code_c0 21 rfl rfl
theorem wp_md_boundOf_d22 : decode prog_13_method_81_code 22 = .ok (.aload_n 0, 1) := wt_op42 wb14m4_prog_13_method_81_code_c0 22 rfl rfl
theorem wp_md_boundOf_d23 : decode prog_13_method_81_code 23 = .ok (.getfield 59, 3) := wt_op180 wb14m4_prog_13_method_81_code_c0 23 rfl rfl rfl
theorem wp_md_boundOf_d26 : decode prog_13_method_81_code 26 = .ok (.iload_n 1, 1) := wt_op27 wb14m4_prog_13_method_81_code_c0 26 rfl rfl
theorem wp_md_boundOf_d27 : decode prog_13_method_81_code 27 = .ok (.iload 5, 2) := wt_op21 wb14m4_prog_13_method_81_code_c0 27 rfl rfl
theorem wp_md_boundOf_d29 : decode prog_13_method_81_code 29 = .ok (.invokestatic 227, 3) := wt_op184 wb14m4_prog_13_method_81_code_c1 0 rfl rfl rfl
theorem wp_md_boundOf_d32 : decode prog_13_method_81_code 32 = .ok (.iaload, 1) := wt_op46 wb14m4_prog_13_method_81_code_c1 3 rfl rfl
theorem wp_md_boundOf_d33 : decode prog_13_method_81_code 33 = .ok (.iconst (-1), 1) := wt_op2 wb14m4_prog_13_method_81_code_c1 4 rfl rfl
theorem wp_md_boundOf_d34 : decode prog_13_method_81_code 34 = .ok (.if_icmp .ne 17, 3) := wt_op160 wb14m4_prog_13_method_81_code_c1 5 rfl rfl rfl
theorem wp_md_boundOf_d37 : decode prog_13_method_81_code 37 = .ok (.aload_n 0, 1) := wt_op42 wb14m4_prog_13_method_81_code_c1 8 rfl rfl
theorem wp_md_boundOf_d38 : decode prog_13_method_81_code 38 = .ok (.getfield 50, 3) := wt_op180 wb14m4_prog_13_method_81_code_c1 9 rfl rfl rfl
theorem wp_md_boundOf_d41 : decode prog_13_method_81_code 41 = .ok (.iload_n 1, 1) := wt_op27 wb14m4_prog_13_method_81_code_c1 12 rfl rfl
theorem wp_md_boundOf_d42 : decode prog_13_method_81_code 42 = .ok (.iload 5, 2) := wt_op21 wb14m4_prog_13_method_81_code_c1 13 rfl rfl
theorem wp_md_boundOf_d44 : decode prog_13_method_81_code 44 = .ok (.invokestatic 227, 3) := wt_op184 wb14m4_prog_13_method_81_code_c1 15 rfl rfl rfl
theorem wp_md_boundOf_d47 : decode prog_13_method_81_code 47 = .ok (.iaload, 1) := wt_op46 wb14m4_prog_13_method_81_code_c1 18 rfl rfl
theorem wp_md_boundOf_d48 : decode prog_13_method_81_code 48 = .ok (.goto 4, 3) := wt_op167 wb14m4_prog_13_method_81_code_c1 19 rfl rfl rfl
theorem wp_md_boundOf_d51 : decode prog_13_method_81_code 51 = .ok (.iconst 0, 1) := wt_op3 wb14m4_prog_13_method_81_code_c1 22 rfl rfl
theorem wp_md_boundOf_d52 : decode prog_13_method_81_code 52 = .ok (.iadd, 1) := wt_op96 wb14m4_prog_13_method_81_code_c1 23 rfl rfl
theorem wp_md_boundOf_d53 : decode prog_13_method_81_code 53 = .ok (.istore_n 2, 1) := wt_op61 wb14m4_prog_13_method_81_code_c1 24 rfl rfl
theorem wp_md_boundOf_d54 : decode prog_13_method_81_code 54 = .ok (.iinc 5 1, 3) := wt_op132 wb14m4_prog_13_method_81_code_c1 25 rfl rfl rfl
theorem wp_md_boundOf_d57 : decode prog_13_method_81_code 57 = .ok (.goto (-47), 3) := wt_op167 wb14m4_prog_13_method_81_code_c2 0 rfl rfl rfl
theorem wp_md_boundOf_d60 : decode prog_13_method_81_code 60 = .ok (.iconst 0, 1) := wt_op3 wb14m4_prog_13_method_81_code_c2 3 rfl rfl
theorem wp_md_boundOf_d61 : decode prog_13_method_81_code 61 = .ok (.istore 5, 2) := wt_op54 wb14m4_prog_13_method_81_code_c2 4 rfl rfl
theorem wp_md_boundOf_d63 : decode prog_13_method_81_code 63 = .ok (.iload 5, 2) := wt_op21 wb14m4_prog_13_method_81_code_c2 6 rfl rfl
theorem wp_md_boundOf_d65 : decode prog_13_method_81_code 65 = .ok (.aload_n 0, 1) := wt_op42 wb14m4_prog_13_method_81_code_c2 8 rfl rfl
theorem wp_md_boundOf_d66 : decode prog_13_method_81_code 66 = .ok (.getfield 268, 3) := wt_op180 wb14m4_prog_13_method_81_code_c2 9 rfl rfl rfl
theorem wp_md_boundOf_d69 : decode prog_13_method_81_code 69 = .ok (.if_icmp .ge 45, 3) := wt_op162 wb14m4_prog_13_method_81_code_c2 12 rfl rfl rfl
theorem wp_md_boundOf_d72 : decode prog_13_method_81_code 72 = .ok (.aload_n 0, 1) := wt_op42 wb14m4_prog_13_method_81_code_c2 15 rfl rfl
theorem wp_md_boundOf_d73 : decode prog_13_method_81_code 73 = .ok (.aload_n 0, 1) := wt_op42 wb14m4_prog_13_method_81_code_c2 16 rfl rfl
theorem wp_md_boundOf_d74 : decode prog_13_method_81_code 74 = .ok (.getfield 94, 3) := wt_op180 wb14m4_prog_13_method_81_code_c2 17 rfl rfl rfl
theorem wp_md_boundOf_d77 : decode prog_13_method_81_code 77 = .ok (.iload 5, 2) := wt_op21 wb14m4_prog_13_method_81_code_c2 20 rfl rfl
theorem wp_md_boundOf_d79 : decode prog_13_method_81_code 79 = .ok (.aaload, 1) := wt_op50 wb14m4_prog_13_method_81_code_c2 22 rfl rfl
theorem wp_md_boundOf_d80 : decode prog_13_method_81_code 80 = .ok (.iconst 0, 1) := wt_op3 wb14m4_prog_13_method_81_code_c2 23 rfl rfl
theorem wp_md_boundOf_d81 : decode prog_13_method_81_code 81 = .ok (.iaload, 1) := wt_op46 wb14m4_prog_13_method_81_code_c2 24 rfl rfl
theorem wp_md_boundOf_d82 : decode prog_13_method_81_code 82 = .ok (.invokevirtual 310, 3) := wt_op182 wb14m4_prog_13_method_81_code_c2 25 rfl rfl rfl
theorem wp_md_boundOf_d85 : decode prog_13_method_81_code 85 = .ok (.aload_n 0, 1) := wt_op42 wb14m4_prog_13_method_81_code_c3 0 rfl rfl
theorem wp_md_boundOf_d86 : decode prog_13_method_81_code 86 = .ok (.getfield 142, 3) := wt_op180 wb14m4_prog_13_method_81_code_c3 1 rfl rfl rfl
theorem wp_md_boundOf_d89 : decode prog_13_method_81_code 89 = .ok (.iload 5, 2) := wt_op21 wb14m4_prog_13_method_81_code_c3 4 rfl rfl
theorem wp_md_boundOf_d91 : decode prog_13_method_81_code 91 = .ok (.aload_n 0, 1) := wt_op42 wb14m4_prog_13_method_81_code_c3 6 rfl rfl
theorem wp_md_boundOf_d92 : decode prog_13_method_81_code 92 = .ok (.getfield 115, 3) := wt_op180 wb14m4_prog_13_method_81_code_c3 7 rfl rfl rfl
theorem wp_md_boundOf_d95 : decode prog_13_method_81_code 95 = .ok (.iload_n 1, 1) := wt_op27 wb14m4_prog_13_method_81_code_c3 10 rfl rfl
theorem wp_md_boundOf_d96 : decode prog_13_method_81_code 96 = .ok (.iaload, 1) := wt_op46 wb14m4_prog_13_method_81_code_c3 11 rfl rfl
theorem wp_md_boundOf_d97 : decode prog_13_method_81_code 97 = .ok (.aload_n 0, 1) := wt_op42 wb14m4_prog_13_method_81_code_c3 12 rfl rfl
theorem wp_md_boundOf_d98 : decode prog_13_method_81_code 98 = .ok (.getfield 94, 3) := wt_op180 wb14m4_prog_13_method_81_code_c3 13 rfl rfl rfl
theorem wp_md_boundOf_d101 : decode prog_13_method_81_code 101 = .ok (.iload 5, 2) := wt_op21 wb14m4_prog_13_method_81_code_c3 16 rfl rfl
theorem wp_md_boundOf_d103 : decode prog_13_method_81_code 103 = .ok (.aaload, 1) := wt_op50 wb14m4_prog_13_method_81_code_c3 18 rfl rfl
theorem wp_md_boundOf_d104 : decode prog_13_method_81_code 104 = .ok (.iconst 1, 1) := wt_op4 wb14m4_prog_13_method_81_code_c3 19 rfl rfl
theorem wp_md_boundOf_d105 : decode prog_13_method_81_code 105 = .ok (.iaload, 1) := wt_op46 wb14m4_prog_13_method_81_code_c3 20 rfl rfl
theorem wp_md_boundOf_d106 : decode prog_13_method_81_code 106 = .ok (.imul, 1) := wt_op104 wb14m4_prog_13_method_81_code_c3 21 rfl rfl
theorem wp_md_boundOf_d107 : decode prog_13_method_81_code 107 = .ok (.iastore, 1) := wt_op79 wb14m4_prog_13_method_81_code_c3 22 rfl rfl
theorem wp_md_boundOf_d108 : decode prog_13_method_81_code 108 = .ok (.iinc 5 1, 3) := wt_op132 wb14m4_prog_13_method_81_code_c3 23 rfl rfl rfl
theorem wp_md_boundOf_d111 : decode prog_13_method_81_code 111 = .ok (.goto (-48), 3) := wt_op167 wb14m4_prog_13_method_81_code_c3 26 rfl rfl rfl
theorem wp_md_boundOf_d114 : decode prog_13_method_81_code 114 = .ok (.iload 4, 2) := wt_op21 wb14m4_prog_13_method_81_code_c4 0 rfl rfl
theorem wp_md_boundOf_d116 : decode prog_13_method_81_code 116 = .ok (.aload_n 0, 1) := wt_op42 wb14m4_prog_13_method_81_code_c4 2 rfl rfl
theorem wp_md_boundOf_d117 : decode prog_13_method_81_code 117 = .ok (.getfield 268, 3) := wt_op180 wb14m4_prog_13_method_81_code_c4 3 rfl rfl rfl
theorem wp_md_boundOf_d120 : decode prog_13_method_81_code 120 = .ok (.if_icmp .ge 158, 3) := wt_op162 wb14m4_prog_13_method_81_code_c4 6 rfl rfl rfl
theorem wp_md_boundOf_d123 : decode prog_13_method_81_code 123 = .ok (.iconst (-1), 1) := wt_op2 wb14m4_prog_13_method_81_code_c4 9 rfl rfl
theorem wp_md_boundOf_d124 : decode prog_13_method_81_code 124 = .ok (.istore 5, 2) := wt_op54 wb14m4_prog_13_method_81_code_c4 10 rfl rfl
theorem wp_md_boundOf_d126 : decode prog_13_method_81_code 126 = .ok (.iconst 0, 1) := wt_op3 wb14m4_prog_13_method_81_code_c4 12 rfl rfl
theorem wp_md_boundOf_d127 : decode prog_13_method_81_code 127 = .ok (.istore 6, 2) := wt_op54 wb14m4_prog_13_method_81_code_c4 13 rfl rfl
theorem wp_md_boundOf_d129 : decode prog_13_method_81_code 129 = .ok (.iload 6, 2) := wt_op21 wb14m4_prog_13_method_81_code_c4 15 rfl rfl
theorem wp_md_boundOf_d131 : decode prog_13_method_81_code 131 = .ok (.aload_n 0, 1) := wt_op42 wb14m4_prog_13_method_81_code_c4 17 rfl rfl
theorem wp_md_boundOf_d132 : decode prog_13_method_81_code 132 = .ok (.getfield 268, 3) := wt_op180 wb14m4_prog_13_method_81_code_c4 18 rfl rfl rfl
theorem wp_md_boundOf_d135 : decode prog_13_method_81_code 135 = .ok (.if_icmp .ge 74, 3) := wt_op162 wb14m4_prog_13_method_81_code_c4 21 rfl rfl rfl
theorem wp_md_boundOf_d138 : decode prog_13_method_81_code 138 = .ok (.aload_n 0, 1) := wt_op42 wb14m4_prog_13_method_81_code_c4 24 rfl rfl
theorem wp_md_boundOf_d139 : decode prog_13_method_81_code 139 = .ok (.getfield 142, 3) := wt_op180 wb14m4_prog_13_method_81_code_c4 25 rfl rfl rfl
theorem wp_md_boundOf_d142 : decode prog_13_method_81_code 142 = .ok (.iload 6, 2) := wt_op21 wb14m4_prog_13_method_81_code_c5 0 rfl rfl
theorem wp_md_boundOf_d144 : decode prog_13_method_81_code 144 = .ok (.iaload, 1) := wt_op46 wb14m4_prog_13_method_81_code_c5 2 rfl rfl
theorem wp_md_boundOf_d145 : decode prog_13_method_81_code 145 = .ok (.ifCond .ge 6, 3) := wt_op156 wb14m4_prog_13_method_81_code_c5 3 rfl rfl rfl
theorem wp_md_boundOf_d148 : decode prog_13_method_81_code 148 = .ok (.goto 55, 3) := wt_op167 wb14m4_prog_13_method_81_code_c5 6 rfl rfl rfl
theorem wp_md_boundOf_d151 : decode prog_13_method_81_code 151 = .ok (.iload 5, 2) := wt_op21 wb14m4_prog_13_method_81_code_c5 9 rfl rfl
theorem wp_md_boundOf_d153 : decode prog_13_method_81_code 153 = .ok (.iconst (-1), 1) := wt_op2 wb14m4_prog_13_method_81_code_c5 11 rfl rfl
theorem wp_md_boundOf_d154 : decode prog_13_method_81_code 154 = .ok (.if_icmp .eq 40, 3) := wt_op159 wb14m4_prog_13_method_81_code_c5 12 rfl rfl rfl
theorem wp_md_boundOf_d157 : decode prog_13_method_81_code 157 = .ok (.aload_n 0, 1) := wt_op42 wb14m4_prog_13_method_81_code_c5 15 rfl rfl
theorem wp_md_boundOf_d158 : decode prog_13_method_81_code 158 = .ok (.getfield 94, 3) := wt_op180 wb14m4_prog_13_method_81_code_c5 16 rfl rfl rfl
theorem wp_md_boundOf_d161 : decode prog_13_method_81_code 161 = .ok (.iload 6, 2) := wt_op21 wb14m4_prog_13_method_81_code_c5 19 rfl rfl
theorem wp_md_boundOf_d163 : decode prog_13_method_81_code 163 = .ok (.aaload, 1) := wt_op50 wb14m4_prog_13_method_81_code_c5 21 rfl rfl
theorem wp_md_boundOf_d164 : decode prog_13_method_81_code 164 = .ok (.iconst 3, 1) := wt_op6 wb14m4_prog_13_method_81_code_c5 22 rfl rfl
theorem wp_md_boundOf_d165 : decode prog_13_method_81_code 165 = .ok (.iaload, 1) := wt_op46 wb14m4_prog_13_method_81_code_c5 23 rfl rfl
theorem wp_md_boundOf_d166 : decode prog_13_method_81_code 166 = .ok (.aload_n 0, 1) := wt_op42 wb14m4_prog_13_method_81_code_c5 24 rfl rfl
theorem wp_md_boundOf_d167 : decode prog_13_method_81_code 167 = .ok (.getfield 142, 3) := wt_op180 wb14m4_prog_13_method_81_code_c5 25 rfl rfl rfl
theorem wp_md_boundOf_d170 : decode prog_13_method_81_code 170 = .ok (.iload 5, 2) := wt_op21 wb14m4_prog_13_method_81_code_c6 0 rfl rfl
theorem wp_md_boundOf_d172 : decode prog_13_method_81_code 172 = .ok (.iaload, 1) := wt_op46 wb14m4_prog_13_method_81_code_c6 2 rfl rfl
theorem wp_md_boundOf_d173 : decode prog_13_method_81_code 173 = .ok (.imul, 1) := wt_op104 wb14m4_prog_13_method_81_code_c6 3 rfl rfl
theorem wp_md_boundOf_d174 : decode prog_13_method_81_code 174 = .ok (.aload_n 0, 1) := wt_op42 wb14m4_prog_13_method_81_code_c6 4 rfl rfl
theorem wp_md_boundOf_d175 : decode prog_13_method_81_code 175 = .ok (.getfield 94, 3) := wt_op180 wb14m4_prog_13_method_81_code_c6 5 rfl rfl rfl
theorem wp_md_boundOf_d178 : decode prog_13_method_81_code 178 = .ok (.iload 5, 2) := wt_op21 wb14m4_prog_13_method_81_code_c6 8 rfl rfl
theorem wp_md_boundOf_d180 : decode prog_13_method_81_code 180 = .ok (.aaload, 1) := wt_op50 wb14m4_prog_13_method_81_code_c6 10 rfl rfl
theorem wp_md_boundOf_d181 : decode prog_13_method_81_code 181 = .ok (.iconst 3, 1) := wt_op6 wb14m4_prog_13_method_81_code_c6 11 rfl rfl
theorem wp_md_boundOf_d182 : decode prog_13_method_81_code 182 = .ok (.iaload, 1) := wt_op46 wb14m4_prog_13_method_81_code_c6 12 rfl rfl
theorem wp_md_boundOf_d183 : decode prog_13_method_81_code 183 = .ok (.aload_n 0, 1) := wt_op42 wb14m4_prog_13_method_81_code_c6 13 rfl rfl
theorem wp_md_boundOf_d184 : decode prog_13_method_81_code 184 = .ok (.getfield 142, 3) := wt_op180 wb14m4_prog_13_method_81_code_c6 14 rfl rfl rfl
theorem wp_md_boundOf_d187 : decode prog_13_method_81_code 187 = .ok (.iload 6, 2) := wt_op21 wb14m4_prog_13_method_81_code_c6 17 rfl rfl
theorem wp_md_boundOf_d189 : decode prog_13_method_81_code 189 = .ok (.iaload, 1) := wt_op46 wb14m4_prog_13_method_81_code_c6 19 rfl rfl
theorem wp_md_boundOf_d190 : decode prog_13_method_81_code 190 = .ok (.imul, 1) := wt_op104 wb14m4_prog_13_method_81_code_c6 20 rfl rfl
theorem wp_md_boundOf_d191 : decode prog_13_method_81_code 191 = .ok (.if_icmp .le 8, 3) := wt_op164 wb14m4_prog_13_method_81_code_c6 21 rfl rfl rfl
theorem wp_md_boundOf_d194 : decode prog_13_method_81_code 194 = .ok (.iload 6, 2) := wt_op21 wb14m4_prog_13_method_81_code_c6 24 rfl rfl
theorem wp_md_boundOf_d196 : decode prog_13_method_81_code 196 = .ok (.goto 5, 3) := wt_op167 wb14m4_prog_13_method_81_code_c6 26 rfl rfl rfl
theorem wp_md_boundOf_d199 : decode prog_13_method_81_code 199 = .ok (.iload 5, 2) := wt_op21 wb14m4_prog_13_method_81_code_c7 0 rfl rfl
theorem wp_md_boundOf_d201 : decode prog_13_method_81_code 201 = .ok (.istore 5, 2) := wt_op54 wb14m4_prog_13_method_81_code_c7 2 rfl rfl
theorem wp_md_boundOf_d203 : decode prog_13_method_81_code 203 = .ok (.iinc 6 1, 3) := wt_op132 wb14m4_prog_13_method_81_code_c7 4 rfl rfl rfl
theorem wp_md_boundOf_d206 : decode prog_13_method_81_code 206 = .ok (.goto (-77), 3) := wt_op167 wb14m4_prog_13_method_81_code_c7 7 rfl rfl rfl
theorem wp_md_boundOf_d209 : decode prog_13_method_81_code 209 = .ok (.aload_n 0, 1) := wt_op42 wb14m4_prog_13_method_81_code_c7 10 rfl rfl
theorem wp_md_boundOf_d210 : decode prog_13_method_81_code 210 = .ok (.getfield 142, 3) := wt_op180 wb14m4_prog_13_method_81_code_c7 11 rfl rfl rfl
theorem wp_md_boundOf_d213 : decode prog_13_method_81_code 213 = .ok (.iload 5, 2) := wt_op21 wb14m4_prog_13_method_81_code_c7 14 rfl rfl
theorem wp_md_boundOf_d215 : decode prog_13_method_81_code 215 = .ok (.iaload, 1) := wt_op46 wb14m4_prog_13_method_81_code_c7 16 rfl rfl
theorem wp_md_boundOf_d216 : decode prog_13_method_81_code 216 = .ok (.iload_n 2, 1) := wt_op28 wb14m4_prog_13_method_81_code_c7 17 rfl rfl
theorem wp_md_boundOf_d217 : decode prog_13_method_81_code 217 = .ok (.if_icmp .le 25, 3) := wt_op164 wb14m4_prog_13_method_81_code_c7 18 rfl rfl rfl
theorem wp_md_boundOf_d220 : decode prog_13_method_81_code 220 = .ok (.iload_n 3, 1) := wt_op29 wb14m4_prog_13_method_81_code_c7 21 rfl rfl
theorem wp_md_boundOf_d221 : decode prog_13_method_81_code 221 = .ok (.aload_n 0, 1) := wt_op42 wb14m4_prog_13_method_81_code_c7 22 rfl rfl
theorem wp_md_boundOf_d222 : decode prog_13_method_81_code 222 = .ok (.getfield 94, 3) := wt_op180 wb14m4_prog_13_method_81_code_c7 23 rfl rfl rfl
theorem wp_md_boundOf_d225 : decode prog_13_method_81_code 225 = .ok (.iload 5, 2) := wt_op21 wb14m4_prog_13_method_81_code_c7 26 rfl rfl
theorem wp_md_boundOf_d227 : decode prog_13_method_81_code 227 = .ok (.aaload, 1) := wt_op50 wb14m4_prog_13_method_81_code_c8 0 rfl rfl
theorem wp_md_boundOf_d228 : decode prog_13_method_81_code 228 = .ok (.iconst 3, 1) := wt_op6 wb14m4_prog_13_method_81_code_c8 1 rfl rfl
theorem wp_md_boundOf_d229 : decode prog_13_method_81_code 229 = .ok (.iaload, 1) := wt_op46 wb14m4_prog_13_method_81_code_c8 2 rfl rfl
theorem wp_md_boundOf_d230 : decode prog_13_method_81_code 230 = .ok (.iload_n 2, 1) := wt_op28 wb14m4_prog_13_method_81_code_c8 3 rfl rfl
theorem wp_md_boundOf_d231 : decode prog_13_method_81_code 231 = .ok (.imul, 1) := wt_op104 wb14m4_prog_13_method_81_code_c8 4 rfl rfl
theorem wp_md_boundOf_d232 : decode prog_13_method_81_code 232 = .ok (.aload_n 0, 1) := wt_op42 wb14m4_prog_13_method_81_code_c8 5 rfl rfl
theorem wp_md_boundOf_d233 : decode prog_13_method_81_code 233 = .ok (.getfield 142, 3) := wt_op180 wb14m4_prog_13_method_81_code_c8 6 rfl rfl rfl
theorem wp_md_boundOf_d236 : decode prog_13_method_81_code 236 = .ok (.iload 5, 2) := wt_op21 wb14m4_prog_13_method_81_code_c8 9 rfl rfl
theorem wp_md_boundOf_d238 : decode prog_13_method_81_code 238 = .ok (.iaload, 1) := wt_op46 wb14m4_prog_13_method_81_code_c8 11 rfl rfl
theorem wp_md_boundOf_d239 : decode prog_13_method_81_code 239 = .ok (.idiv, 1) := wt_op108 wb14m4_prog_13_method_81_code_c8 12 rfl rfl
theorem wp_md_boundOf_d240 : decode prog_13_method_81_code 240 = .ok (.iadd, 1) := wt_op96 wb14m4_prog_13_method_81_code_c8 13 rfl rfl
theorem wp_md_boundOf_d241 : decode prog_13_method_81_code 241 = .ok (.ireturn, 1) := wt_op172 wb14m4_prog_13_method_81_code_c8 14 rfl rfl
theorem wp_md_boundOf_d242 : decode prog_13_method_81_code 242 = .ok (.iload_n 3, 1) := wt_op29 wb14m4_prog_13_method_81_code_c8 15 rfl rfl
theorem wp_md_boundOf_d243 : decode prog_13_method_81_code 243 = .ok (.aload_n 0, 1) := wt_op42 wb14m4_prog_13_method_81_code_c8 16 rfl rfl
theorem wp_md_boundOf_d244 : decode prog_13_method_81_code 244 = .ok (.getfield 94, 3) := wt_op180 wb14m4_prog_13_method_81_code_c8 17 rfl rfl rfl
theorem wp_md_boundOf_d247 : decode prog_13_method_81_code 247 = .ok (.iload 5, 2) := wt_op21 wb14m4_prog_13_method_81_code_c8 20 rfl rfl
theorem wp_md_boundOf_d249 : decode prog_13_method_81_code 249 = .ok (.aaload, 1) := wt_op50 wb14m4_prog_13_method_81_code_c8 22 rfl rfl
theorem wp_md_boundOf_d250 : decode prog_13_method_81_code 250 = .ok (.iconst 3, 1) := wt_op6 wb14m4_prog_13_method_81_code_c8 23 rfl rfl
theorem wp_md_boundOf_d251 : decode prog_13_method_81_code 251 = .ok (.iaload, 1) := wt_op46 wb14m4_prog_13_method_81_code_c8 24 rfl rfl
theorem wp_md_boundOf_d252 : decode prog_13_method_81_code 252 = .ok (.iadd, 1) := wt_op96 wb14m4_prog_13_method_81_code_c8 25 rfl rfl
theorem wp_md_boundOf_d253 : decode prog_13_method_81_code 253 = .ok (.istore_n 3, 1) := wt_op62 wb14m4_prog_13_method_81_code_c8 26 rfl rfl
theorem wp_md_boundOf_d254 : decode prog_13_method_81_code 254 = .ok (.iload_n 2, 1) := wt_op28 wb14m4_prog_13_method_81_code_c8 27 rfl rfl
theorem wp_md_boundOf_d255 : decode prog_13_method_81_code 255 = .ok (.aload_n 0, 1) := wt_op42 wb14m4_prog_13_method_81_code_c9 0 rfl rfl
theorem wp_md_boundOf_d256 : decode prog_13_method_81_code 256 = .ok (.getfield 142, 3) := wt_op180 wb14m4_prog_13_method_81_code_c9 1 rfl rfl rfl
theorem wp_md_boundOf_d259 : decode prog_13_method_81_code 259 = .ok (.iload 5, 2) := wt_op21 wb14m4_prog_13_method_81_code_c9 4 rfl rfl
theorem wp_md_boundOf_d261 : decode prog_13_method_81_code 261 = .ok (.iaload, 1) := wt_op46 wb14m4_prog_13_method_81_code_c9 6 rfl rfl
theorem wp_md_boundOf_d262 : decode prog_13_method_81_code 262 = .ok (.isub, 1) := wt_op100 wb14m4_prog_13_method_81_code_c9 7 rfl rfl
theorem wp_md_boundOf_d263 : decode prog_13_method_81_code 263 = .ok (.istore_n 2, 1) := wt_op61 wb14m4_prog_13_method_81_code_c9 8 rfl rfl
theorem wp_md_boundOf_d264 : decode prog_13_method_81_code 264 = .ok (.aload_n 0, 1) := wt_op42 wb14m4_prog_13_method_81_code_c9 9 rfl rfl
theorem wp_md_boundOf_d265 : decode prog_13_method_81_code 265 = .ok (.getfield 142, 3) := wt_op180 wb14m4_prog_13_method_81_code_c9 10 rfl rfl rfl
theorem wp_md_boundOf_d268 : decode prog_13_method_81_code 268 = .ok (.iload 5, 2) := wt_op21 wb14m4_prog_13_method_81_code_c9 13 rfl rfl
theorem wp_md_boundOf_d270 : decode prog_13_method_81_code 270 = .ok (.iconst (-1), 1) := wt_op2 wb14m4_prog_13_method_81_code_c9 15 rfl rfl
theorem wp_md_boundOf_d271 : decode prog_13_method_81_code 271 = .ok (.iastore, 1) := wt_op79 wb14m4_prog_13_method_81_code_c9 16 rfl rfl
theorem wp_md_boundOf_d272 : decode prog_13_method_81_code 272 = .ok (.iinc 4 1, 3) := wt_op132 wb14m4_prog_13_method_81_code_c9 17 rfl rfl rfl
theorem wp_md_boundOf_d275 : decode prog_13_method_81_code 275 = .ok (.goto (-161), 3) := wt_op167 wb14m4_prog_13_method_81_code_c9 20 rfl rfl rfl
theorem wp_md_boundOf_d278 : decode prog_13_method_81_code 278 = .ok (.iload_n 3, 1) := wt_op29 wb14m4_prog_13_method_81_code_c9 23 rfl rfl
theorem wp_md_boundOf_d279 : decode prog_13_method_81_code 279 = .ok (.ireturn, 1) := wt_op172 wb14m4_prog_13_method_81_code_c9 24 rfl rfl
noncomputable def wp_md_boundOf_B203 (n : Nat) (x2 : Int32) (x3 : Int32) (x4 : Int32) (x5 : Int32) (x6 : Int32) (K114 : Int32 × Int32 × Int32 × wt_St → Option (Int32 × wt_St)) (K129 : Int32 × Int32 × wt_St → Option (Int32 × wt_St)) (σ : wt_St) : Option (Int32 × wt_St) :=
  K129 (x5, (x6 + (1 : Int32)), σ)
set_option maxRecDepth 100000 in
set_option maxHeartbeats 4000000 in
theorem wp_md_boundOf_B203_ok  {x2 : Int32} {x3 : Int32} {x4 : Int32} {x5 : Int32} {x6 : Int32} {X : wt_X} {n : Nat} {res : Int32 × wt_St} (hE : wt_Ok X prog_13_method_81_code 7 "WornTypeModel" 2 0) (hR : wt_Rt X (some .int) (some res.1) res.2) (hD : ∀ i, 108 ≤ i → i < 321 → wt_dom (wt_xw X) i)  {K114 : Int32 × Int32 × Int32 × wt_St → Option (Int32 × wt_St)} (hK114 : ∀ s : Int32 × Int32 × Int32 × wt_St, K114 s = some res → wt_V X 0 s.2.2.2 114 [some (.ref (wt_ad (wt_xw X) 108)), none, some (.int s.1), some (.int s.2.1), some (.int s.2.2.1), none, none] []) {K129 : Int32 × Int32 × wt_St → Option (Int32 × wt_St)} (hK129 : ∀ s : Int32 × Int32 × wt_St, K129 s = some res → wt_V X 0 s.2.2 129 [some (.ref (wt_ad (wt_xw X) 108)), none, some (.int x2), some (.int x3), some (.int x4), some (.int s.1), some (.int s.2.1)] []) {σ : wt_St} (h : wp_md_boundOf_B203 n x2 x3 x4 x5 x6 K114 K129 σ = some res) : wt_V X 0 σ 203 [some (.ref (wt_ad (wt_xw X) 108)), none, some (.int x2), some (.int x3), some (.int x4), some (.int x5), some (.int x6)] [] := by
  unfold wp_md_boundOf_B203 at h
  refine wt_iinc hE (x6 + (1 : Int32)) [some (.ref (wt_ad (wt_xw X) 108)), none, some (.int x2), some (.int x3), some (.int x4), some (.int x5), some (.int (x6 + (1 : Int32)))] wp_md_boundOf_d203 (by decide) rfl rfl rfl ?_
  refine wt_goto hE 129 wp_md_boundOf_d206 rfl ?_
  exact hK129 (x5, (x6 + (1 : Int32)), σ) h
noncomputable def wp_md_boundOf_B201 (n : Nat) (x2 : Int32) (x3 : Int32) (x4 : Int32) (x6 : Int32) (K114 : Int32 × Int32 × Int32 × wt_St → Option (Int32 × wt_St)) (K129 : Int32 × Int32 × wt_St → Option (Int32 × wt_St)) (y0 : Int32) (σ : wt_St) : Option (Int32 × wt_St) :=
  wp_md_boundOf_B203 n x2 x3 x4 y0 x6 K114 K129 σ
set_option maxRecDepth 100000 in
set_option maxHeartbeats 4000000 in
theorem wp_md_boundOf_B201_ok  {x2 : Int32} {x3 : Int32} {x4 : Int32} {x6 : Int32} {X : wt_X} {n : Nat} {res : Int32 × wt_St} (hE : wt_Ok X prog_13_method_81_code 7 "WornTypeModel" 2 0) (hR : wt_Rt X (some .int) (some res.1) res.2) (hD : ∀ i, 108 ≤ i → i < 321 → wt_dom (wt_xw X) i)  {K114 : Int32 × Int32 × Int32 × wt_St → Option (Int32 × wt_St)} (hK114 : ∀ s : Int32 × Int32 × Int32 × wt_St, K114 s = some res → wt_V X 0 s.2.2.2 114 [some (.ref (wt_ad (wt_xw X) 108)), none, some (.int s.1), some (.int s.2.1), some (.int s.2.2.1), none, none] []) {K129 : Int32 × Int32 × wt_St → Option (Int32 × wt_St)} (hK129 : ∀ s : Int32 × Int32 × wt_St, K129 s = some res → wt_V X 0 s.2.2 129 [some (.ref (wt_ad (wt_xw X) 108)), none, some (.int x2), some (.int x3), some (.int x4), some (.int s.1), some (.int s.2.1)] []) {σ : wt_St} {y0 : Int32} (h : wp_md_boundOf_B201 n x2 x3 x4 x6 K114 K129 y0 σ = some res) : wt_V X 0 σ 201 [some (.ref (wt_ad (wt_xw X) 108)), none, some (.int x2), some (.int x3), some (.int x4), none, some (.int x6)] [.int y0] := by
  unfold wp_md_boundOf_B201 at h
  refine wt_istore hE [some (.ref (wt_ad (wt_xw X) 108)), none, some (.int x2), some (.int x3), some (.int x4), some (.int y0), some (.int x6)] wp_md_boundOf_d201 (Nat.le_of_ble_eq_true rfl) rfl ?_
  exact wp_md_boundOf_B203_ok hE hR hD hK114 hK129 h
noncomputable def wp_md_boundOf_B194 (n : Nat) (x2 : Int32) (x3 : Int32) (x4 : Int32) (x6 : Int32) (K114 : Int32 × Int32 × Int32 × wt_St → Option (Int32 × wt_St)) (K129 : Int32 × Int32 × wt_St → Option (Int32 × wt_St)) (σ : wt_St) : Option (Int32 × wt_St) :=
  wp_md_boundOf_B201 n x2 x3 x4 x6 K114 K129 x6 σ
set_option maxRecDepth 100000 in
set_option maxHeartbeats 4000000 in
theorem wp_md_boundOf_B194_ok  {x2 : Int32} {x3 : Int32} {x4 : Int32} {x6 : Int32} {X : wt_X} {n : Nat} {res : Int32 × wt_St} (hE : wt_Ok X prog_13_method_81_code 7 "WornTypeModel" 2 0) (hR : wt_Rt X (some .int) (some res.1) res.2) (hD : ∀ i, 108 ≤ i → i < 321 → wt_dom (wt_xw X) i)  {K114 : Int32 × Int32 × Int32 × wt_St → Option (Int32 × wt_St)} (hK114 : ∀ s : Int32 × Int32 × Int32 × wt_St, K114 s = some res → wt_V X 0 s.2.2.2 114 [some (.ref (wt_ad (wt_xw X) 108)), none, some (.int s.1), some (.int s.2.1), some (.int s.2.2.1), none, none] []) {K129 : Int32 × Int32 × wt_St → Option (Int32 × wt_St)} (hK129 : ∀ s : Int32 × Int32 × wt_St, K129 s = some res → wt_V X 0 s.2.2 129 [some (.ref (wt_ad (wt_xw X) 108)), none, some (.int x2), some (.int x3), some (.int x4), some (.int s.1), some (.int s.2.1)] []) {σ : wt_St} (h : wp_md_boundOf_B194 n x2 x3 x4 x6 K114 K129 σ = some res) : wt_V X 0 σ 194 [some (.ref (wt_ad (wt_xw X) 108)), none, some (.int x2), some (.int x3), some (.int x4), none, some (.int x6)] [] := by
  unfold wp_md_boundOf_B194 at h
  refine wt_iload hE wp_md_boundOf_d194 rfl ?_
  refine wt_goto hE 201 wp_md_boundOf_d196 rfl ?_
  exact wp_md_boundOf_B201_ok hE hR hD hK114 hK129 h
noncomputable def wp_md_boundOf_B129 (n : Nat) (x2 : Int32) (x3 : Int32) (x4 : Int32) (K114 : Int32 × Int32 × Int32 × wt_St → Option (Int32 × wt_St)) (K129 : Int32 × Int32 × wt_St → Option (Int32 × wt_St)) (s : Int32 × Int32 × wt_St) : Option (Int32 × wt_St) :=
  if (wt_gf s.2.2 108 40) ≤ s.2.1 then
    if s.1 < 0 ∨ 10 ≤ Int32.toNatClampNeg s.1 then none else
    if (wt_ga s.2.2 320 (Int32.toNatClampNeg s.1)) ≤ x2 then
      if s.1 < 0 ∨ 10 ≤ Int32.toNatClampNeg s.1 then none else
      if (3 : Int32) < 0 ∨ 4 ≤ Int32.toNatClampNeg (3 : Int32) then none else
      if s.1 < 0 ∨ 10 ≤ Int32.toNatClampNeg s.1 then none else
      if s.1 < 0 ∨ 10 ≤ Int32.toNatClampNeg s.1 then none else
      K114 ((x2 - (wt_ga s.2.2 320 (Int32.toNatClampNeg s.1))), (x3 + (wt_ga s.2.2 (264 + Int32.toNatClampNeg s.1) (Int32.toNatClampNeg (3 : Int32)))), (x4 + (1 : Int32)), (wt_sa s.2.2 320 (Int32.toNatClampNeg s.1) (-1 : Int32)))
    else
      if s.1 < 0 ∨ 10 ≤ Int32.toNatClampNeg s.1 then none else
      if (3 : Int32) < 0 ∨ 4 ≤ Int32.toNatClampNeg (3 : Int32) then none else
      if s.1 < 0 ∨ 10 ≤ Int32.toNatClampNeg s.1 then none else
      if (wt_ga s.2.2 320 (Int32.toNatClampNeg s.1)) = 0 then none else
      some ((x3 + (((wt_ga s.2.2 (264 + Int32.toNatClampNeg s.1) (Int32.toNatClampNeg (3 : Int32))) * x2) / (wt_ga s.2.2 320 (Int32.toNatClampNeg s.1)))), s.2.2)
  else
    if s.2.1 < 0 ∨ 10 ≤ Int32.toNatClampNeg s.2.1 then none else
    if 0 ≤ (wt_ga s.2.2 320 (Int32.toNatClampNeg s.2.1)) then
      if s.1 = (-1 : Int32) then
        wp_md_boundOf_B194 n x2 x3 x4 s.2.1 K114 K129 s.2.2
      else
        if s.2.1 < 0 ∨ 10 ≤ Int32.toNatClampNeg s.2.1 then none else
        if (3 : Int32) < 0 ∨ 4 ≤ Int32.toNatClampNeg (3 : Int32) then none else
        if s.1 < 0 ∨ 10 ≤ Int32.toNatClampNeg s.1 then none else
        if s.1 < 0 ∨ 10 ≤ Int32.toNatClampNeg s.1 then none else
        if (3 : Int32) < 0 ∨ 4 ≤ Int32.toNatClampNeg (3 : Int32) then none else
        if s.2.1 < 0 ∨ 10 ≤ Int32.toNatClampNeg s.2.1 then none else
        if ((wt_ga s.2.2 (264 + Int32.toNatClampNeg s.2.1) (Int32.toNatClampNeg (3 : Int32))) * (wt_ga s.2.2 320 (Int32.toNatClampNeg s.1))) ≤ ((wt_ga s.2.2 (264 + Int32.toNatClampNeg s.1) (Int32.toNatClampNeg (3 : Int32))) * (wt_ga s.2.2 320 (Int32.toNatClampNeg s.2.1))) then
          wp_md_boundOf_B201 n x2 x3 x4 s.2.1 K114 K129 s.1 s.2.2
        else
          wp_md_boundOf_B194 n x2 x3 x4 s.2.1 K114 K129 s.2.2
    else
      wp_md_boundOf_B203 n x2 x3 x4 s.1 s.2.1 K114 K129 s.2.2
set_option maxRecDepth 100000 in
set_option maxHeartbeats 4000000 in
theorem wp_md_boundOf_B129_ok  {x2 : Int32} {x3 : Int32} {x4 : Int32} {X : wt_X} {n : Nat} {res : Int32 × wt_St} (hE : wt_Ok X prog_13_method_81_code 7 "WornTypeModel" 2 0) (hR : wt_Rt X (some .int) (some res.1) res.2) (hD : ∀ i, 108 ≤ i → i < 321 → wt_dom (wt_xw X) i)  {K114 : Int32 × Int32 × Int32 × wt_St → Option (Int32 × wt_St)} (hK114 : ∀ s : Int32 × Int32 × Int32 × wt_St, K114 s = some res → wt_V X 0 s.2.2.2 114 [some (.ref (wt_ad (wt_xw X) 108)), none, some (.int s.1), some (.int s.2.1), some (.int s.2.2.1), none, none] []) {K129 : Int32 × Int32 × wt_St → Option (Int32 × wt_St)} (hK129 : ∀ s : Int32 × Int32 × wt_St, K129 s = some res → wt_V X 0 s.2.2 129 [some (.ref (wt_ad (wt_xw X) 108)), none, some (.int x2), some (.int x3), some (.int x4), some (.int s.1), some (.int s.2.1)] []) {s : Int32 × Int32 × wt_St} (h : wp_md_boundOf_B129 n x2 x3 x4 K114 K129 s = some res) : wt_V X 0 s.2.2 129 [some (.ref (wt_ad (wt_xw X) 108)), none, some (.int x2), some (.int x3), some (.int x4), some (.int s.1), some (.int s.2.1)] [] := by
  unfold wp_md_boundOf_B129 at h
  refine wt_iload hE wp_md_boundOf_d129 rfl ?_
  refine wt_aload_n hE wp_md_boundOf_d131 rfl ?_
  refine wt_geti hE wt_lf_md_268 (hD 108 (by decide) (by decide)) wt_L108 rfl wp_md_boundOf_d132 ?_
  refine wt_icmp_ge hE 209 wp_md_boundOf_d135 rfl (fun c5 => ?_) (fun c5 => ?_)
  · have h := wt_ip c5 h
    refine wt_aload_n hE wp_md_boundOf_d209 rfl ?_
    refine wt_getr hE (r := 320) wt_lf_md_142 (hD 108 (by decide) (by decide)) wt_L108 rfl wp_md_boundOf_d210 ?_
    refine wt_iload hE wp_md_boundOf_d213 rfl ?_
    obtain ⟨g6, h⟩ := wt_gd h
    refine wt_iald hE (hD 320 (by decide) (by decide)) wt_L320 g6 wp_md_boundOf_d215 ?_
    refine wt_iload_n hE wp_md_boundOf_d216 rfl ?_
    refine wt_icmp_le hE 242 wp_md_boundOf_d217 rfl (fun c7 => ?_) (fun c7 => ?_)
    · have h := wt_ip c7 h
      refine wt_iload_n hE wp_md_boundOf_d242 rfl ?_
      refine wt_aload_n hE wp_md_boundOf_d243 rfl ?_
      refine wt_getr hE (r := 263) wt_lf_md_94 (hD 108 (by decide) (by decide)) wt_L108 rfl wp_md_boundOf_d244 ?_
      refine wt_iload hE wp_md_boundOf_d247 rfl ?_
      obtain ⟨g8, h⟩ := wt_gd h
      have lg8 := wt_lt g8
      refine wt_aald1 hE (hD 263 (by decide) (by decide)) wt_L263 g8 wp_md_boundOf_d249 ?_
      refine wt_iconst hE (3 : Int32) wp_md_boundOf_d250 wt_ci_3 ?_
      obtain ⟨g9, h⟩ := wt_gd h
      refine wt_iald hE (hD _ (by omega) (by omega)) (wt_G264 _ lg8) g9 wp_md_boundOf_d251 ?_
      refine wt_iadd hE wp_md_boundOf_d252 ?_
      refine wt_istore_n hE [some (.ref (wt_ad (wt_xw X) 108)), none, some (.int x2), some (.int (x3 + (wt_ga s.2.2 (264 + Int32.toNatClampNeg s.1) (Int32.toNatClampNeg (3 : Int32))))), some (.int x4), some (.int s.1), some (.int s.2.1)] wp_md_boundOf_d253 (by decide) rfl ?_
      refine wt_iload_n hE wp_md_boundOf_d254 rfl ?_
      refine wt_aload_n hE wp_md_boundOf_d255 rfl ?_
      refine wt_getr hE (r := 320) wt_lf_md_142 (hD 108 (by decide) (by decide)) wt_L108 rfl wp_md_boundOf_d256 ?_
      refine wt_iload hE wp_md_boundOf_d259 rfl ?_
      obtain ⟨g10, h⟩ := wt_gd h
      refine wt_iald hE (hD 320 (by decide) (by decide)) wt_L320 g10 wp_md_boundOf_d261 ?_
      refine wt_isub hE wp_md_boundOf_d262 ?_
      refine wt_istore_n hE [some (.ref (wt_ad (wt_xw X) 108)), none, some (.int (x2 - (wt_ga s.2.2 320 (Int32.toNatClampNeg s.1)))), some (.int (x3 + (wt_ga s.2.2 (264 + Int32.toNatClampNeg s.1) (Int32.toNatClampNeg (3 : Int32))))), some (.int x4), some (.int s.1), some (.int s.2.1)] wp_md_boundOf_d263 (by decide) rfl ?_
      refine wt_aload_n hE wp_md_boundOf_d264 rfl ?_
      refine wt_getr hE (r := 320) wt_lf_md_142 (hD 108 (by decide) (by decide)) wt_L108 rfl wp_md_boundOf_d265 ?_
      refine wt_iload hE wp_md_boundOf_d268 rfl ?_
      refine wt_iconst hE (-1 : Int32) wp_md_boundOf_d270 wt_ci_m1 ?_
      obtain ⟨g11, h⟩ := wt_gd h
      refine wt_iast hE (hD 320 (by decide) (by decide)) wt_L320 g11 wp_md_boundOf_d271 ?_
      refine wt_iinc hE (x4 + (1 : Int32)) [some (.ref (wt_ad (wt_xw X) 108)), none, some (.int (x2 - (wt_ga s.2.2 320 (Int32.toNatClampNeg s.1)))), some (.int (x3 + (wt_ga s.2.2 (264 + Int32.toNatClampNeg s.1) (Int32.toNatClampNeg (3 : Int32))))), some (.int (x4 + (1 : Int32))), some (.int s.1), some (.int s.2.1)] wp_md_boundOf_d272 (by decide) rfl rfl rfl ?_
      refine wt_goto hE 114 wp_md_boundOf_d275 rfl ?_
      refine wt_wk [true, true, true, true, true, false, false] rfl ?_
      exact hK114 ((x2 - (wt_ga s.2.2 320 (Int32.toNatClampNeg s.1))), (x3 + (wt_ga s.2.2 (264 + Int32.toNatClampNeg s.1) (Int32.toNatClampNeg (3 : Int32)))), (x4 + (1 : Int32)), (wt_sa s.2.2 320 (Int32.toNatClampNeg s.1) (-1 : Int32))) h
    · have h := wt_in c7 h
      refine wt_iload_n hE wp_md_boundOf_d220 rfl ?_
      refine wt_aload_n hE wp_md_boundOf_d221 rfl ?_
      refine wt_getr hE (r := 263) wt_lf_md_94 (hD 108 (by decide) (by decide)) wt_L108 rfl wp_md_boundOf_d222 ?_
      refine wt_iload hE wp_md_boundOf_d225 rfl ?_
      obtain ⟨g12, h⟩ := wt_gd h
      have lg12 := wt_lt g12
      refine wt_aald1 hE (hD 263 (by decide) (by decide)) wt_L263 g12 wp_md_boundOf_d227 ?_
      refine wt_iconst hE (3 : Int32) wp_md_boundOf_d228 wt_ci_3 ?_
      obtain ⟨g13, h⟩ := wt_gd h
      refine wt_iald hE (hD _ (by omega) (by omega)) (wt_G264 _ lg12) g13 wp_md_boundOf_d229 ?_
      refine wt_iload_n hE wp_md_boundOf_d230 rfl ?_
      refine wt_imul hE wp_md_boundOf_d231 ?_
      refine wt_aload_n hE wp_md_boundOf_d232 rfl ?_
      refine wt_getr hE (r := 320) wt_lf_md_142 (hD 108 (by decide) (by decide)) wt_L108 rfl wp_md_boundOf_d233 ?_
      refine wt_iload hE wp_md_boundOf_d236 rfl ?_
      obtain ⟨g14, h⟩ := wt_gd h
      refine wt_iald hE (hD 320 (by decide) (by decide)) wt_L320 g14 wp_md_boundOf_d238 ?_
      obtain ⟨g15, h⟩ := wt_gd h
      refine wt_idiv hE wp_md_boundOf_d239 g15 ?_
      refine wt_iadd hE wp_md_boundOf_d240 ?_
      cases h
      exact wt_iret hE hR wp_md_boundOf_d241
  · have h := wt_in c5 h
    refine wt_aload_n hE wp_md_boundOf_d138 rfl ?_
    refine wt_getr hE (r := 320) wt_lf_md_142 (hD 108 (by decide) (by decide)) wt_L108 rfl wp_md_boundOf_d139 ?_
    refine wt_iload hE wp_md_boundOf_d142 rfl ?_
    obtain ⟨g16, h⟩ := wt_gd h
    refine wt_iald hE (hD 320 (by decide) (by decide)) wt_L320 g16 wp_md_boundOf_d144 ?_
    refine wt_if_ge hE 151 wp_md_boundOf_d145 rfl (fun c17 => ?_) (fun c17 => ?_)
    · have h := wt_ip c17 h
      refine wt_iload hE wp_md_boundOf_d151 rfl ?_
      refine wt_iconst hE (-1 : Int32) wp_md_boundOf_d153 wt_ci_m1 ?_
      refine wt_icmp_eq hE 194 wp_md_boundOf_d154 rfl (fun c18 => ?_) (fun c18 => ?_)
      · have h := wt_ip c18 h
        refine wt_wk [true, true, true, true, true, false, true] rfl ?_
        exact wp_md_boundOf_B194_ok hE hR hD hK114 hK129 h
      · have h := wt_in c18 h
        refine wt_aload_n hE wp_md_boundOf_d157 rfl ?_
        refine wt_getr hE (r := 263) wt_lf_md_94 (hD 108 (by decide) (by decide)) wt_L108 rfl wp_md_boundOf_d158 ?_
        refine wt_iload hE wp_md_boundOf_d161 rfl ?_
        obtain ⟨g19, h⟩ := wt_gd h
        have lg19 := wt_lt g19
        refine wt_aald1 hE (hD 263 (by decide) (by decide)) wt_L263 g19 wp_md_boundOf_d163 ?_
        refine wt_iconst hE (3 : Int32) wp_md_boundOf_d164 wt_ci_3 ?_
        obtain ⟨g20, h⟩ := wt_gd h
        refine wt_iald hE (hD _ (by omega) (by omega)) (wt_G264 _ lg19) g20 wp_md_boundOf_d165 ?_
        refine wt_aload_n hE wp_md_boundOf_d166 rfl ?_
        refine wt_getr hE (r := 320) wt_lf_md_142 (hD 108 (by decide) (by decide)) wt_L108 rfl wp_md_boundOf_d167 ?_
        refine wt_iload hE wp_md_boundOf_d170 rfl ?_
        obtain ⟨g21, h⟩ := wt_gd h
        refine wt_iald hE (hD 320 (by decide) (by decide)) wt_L320 g21 wp_md_boundOf_d172 ?_
        refine wt_imul hE wp_md_boundOf_d173 ?_
        refine wt_aload_n hE wp_md_boundOf_d174 rfl ?_
        refine wt_getr hE (r := 263) wt_lf_md_94 (hD 108 (by decide) (by decide)) wt_L108 rfl wp_md_boundOf_d175 ?_
        refine wt_iload hE wp_md_boundOf_d178 rfl ?_
        obtain ⟨g22, h⟩ := wt_gd h
        have lg22 := wt_lt g22
        refine wt_aald1 hE (hD 263 (by decide) (by decide)) wt_L263 g22 wp_md_boundOf_d180 ?_
        refine wt_iconst hE (3 : Int32) wp_md_boundOf_d181 wt_ci_3 ?_
        obtain ⟨g23, h⟩ := wt_gd h
        refine wt_iald hE (hD _ (by omega) (by omega)) (wt_G264 _ lg22) g23 wp_md_boundOf_d182 ?_
        refine wt_aload_n hE wp_md_boundOf_d183 rfl ?_
        refine wt_getr hE (r := 320) wt_lf_md_142 (hD 108 (by decide) (by decide)) wt_L108 rfl wp_md_boundOf_d184 ?_
        refine wt_iload hE wp_md_boundOf_d187 rfl ?_
        obtain ⟨g24, h⟩ := wt_gd h
        refine wt_iald hE (hD 320 (by decide) (by decide)) wt_L320 g24 wp_md_boundOf_d189 ?_
        refine wt_imul hE wp_md_boundOf_d190 ?_
        refine wt_icmp_le hE 199 wp_md_boundOf_d191 rfl (fun c25 => ?_) (fun c25 => ?_)
        · have h := wt_ip c25 h
          refine wt_iload hE wp_md_boundOf_d199 rfl ?_
          refine wt_wk [true, true, true, true, true, false, true] rfl ?_
          exact wp_md_boundOf_B201_ok hE hR hD hK114 hK129 h
        · have h := wt_in c25 h
          refine wt_wk [true, true, true, true, true, false, true] rfl ?_
          exact wp_md_boundOf_B194_ok hE hR hD hK114 hK129 h
    · have h := wt_in c17 h
      refine wt_goto hE 203 wp_md_boundOf_d148 rfl ?_
      exact wp_md_boundOf_B203_ok hE hR hD hK114 hK129 h
noncomputable def wp_md_boundOf_B114 (n : Nat) (K114 : Int32 × Int32 × Int32 × wt_St → Option (Int32 × wt_St)) (s : Int32 × Int32 × Int32 × wt_St) : Option (Int32 × wt_St) :=
  if (wt_gf s.2.2.2 108 40) ≤ s.2.2.1 then
    some (s.2.1, s.2.2.2)
  else
    wt_it (wp_md_boundOf_B129 n s.1 s.2.1 s.2.2.1 K114) n ((-1 : Int32), (0 : Int32), s.2.2.2)
set_option maxRecDepth 100000 in
set_option maxHeartbeats 4000000 in
theorem wp_md_boundOf_B114_ok  {X : wt_X} {n : Nat} {res : Int32 × wt_St} (hE : wt_Ok X prog_13_method_81_code 7 "WornTypeModel" 2 0) (hR : wt_Rt X (some .int) (some res.1) res.2) (hD : ∀ i, 108 ≤ i → i < 321 → wt_dom (wt_xw X) i)  {K114 : Int32 × Int32 × Int32 × wt_St → Option (Int32 × wt_St)} (hK114 : ∀ s : Int32 × Int32 × Int32 × wt_St, K114 s = some res → wt_V X 0 s.2.2.2 114 [some (.ref (wt_ad (wt_xw X) 108)), none, some (.int s.1), some (.int s.2.1), some (.int s.2.2.1), none, none] []) {s : Int32 × Int32 × Int32 × wt_St} (h : wp_md_boundOf_B114 n K114 s = some res) : wt_V X 0 s.2.2.2 114 [some (.ref (wt_ad (wt_xw X) 108)), none, some (.int s.1), some (.int s.2.1), some (.int s.2.2.1), none, none] [] := by
  unfold wp_md_boundOf_B114 at h
  refine wt_iload hE wp_md_boundOf_d114 rfl ?_
  refine wt_aload_n hE wp_md_boundOf_d116 rfl ?_
  refine wt_geti hE wt_lf_md_268 (hD 108 (by decide) (by decide)) wt_L108 rfl wp_md_boundOf_d117 ?_
  refine wt_icmp_ge hE 278 wp_md_boundOf_d120 rfl (fun c4 => ?_) (fun c4 => ?_)
  · have h := wt_ip c4 h
    refine wt_iload_n hE wp_md_boundOf_d278 rfl ?_
    cases h
    exact wt_iret hE hR wp_md_boundOf_d279
  · have h := wt_in c4 h
    refine wt_iconst hE (-1 : Int32) wp_md_boundOf_d123 wt_ci_m1 ?_
    refine wt_istore hE [some (.ref (wt_ad (wt_xw X) 108)), none, some (.int s.1), some (.int s.2.1), some (.int s.2.2.1), some (.int (-1 : Int32)), none] wp_md_boundOf_d124 (Nat.le_of_ble_eq_true rfl) rfl ?_
    refine wt_iconst hE (0 : Int32) wp_md_boundOf_d126 wt_ci_0 ?_
    refine wt_istore hE [some (.ref (wt_ad (wt_xw X) 108)), none, some (.int s.1), some (.int s.2.1), some (.int s.2.2.1), some (.int (-1 : Int32)), some (.int (0 : Int32))] wp_md_boundOf_d127 (Nat.le_of_ble_eq_true rfl) rfl ?_
    exact wt_it_ind (fun z => wt_V X 0 z.2.2 129 [some (.ref (wt_ad (wt_xw X) 108)), none, some (.int s.1), some (.int s.2.1), some (.int s.2.2.1), some (.int z.1), some (.int z.2.1)] []) (fun K hK z h => wp_md_boundOf_B129_ok hE hR hD hK114 hK h) n ((-1 : Int32), (0 : Int32), s.2.2.2) h
noncomputable def wp_md_boundOf_B63 (n : Nat) (x1 : Int32) (x2 : Int32) (x3 : Int32) (x4 : Int32) (K63 : Int32 × wt_St → Option (Int32 × wt_St)) (s : Int32 × wt_St) : Option (Int32 × wt_St) :=
  if (wt_gf s.2 108 40) ≤ s.1 then
    wt_it (wp_md_boundOf_B114 n) n (x2, x3, x4, s.2)
  else
    if s.1 < 0 ∨ 10 ≤ Int32.toNatClampNeg s.1 then none else
    if (0 : Int32) < 0 ∨ 4 ≤ Int32.toNatClampNeg (0 : Int32) then none else
    (wp_md_needsText n (wt_ga s.2 (264 + Int32.toNatClampNeg s.1) (Int32.toNatClampNeg (0 : Int32))) s.2).bind fun q28 =>
    if x1 < 0 ∨ 26 ≤ Int32.toNatClampNeg x1 then none else
    if s.1 < 0 ∨ 10 ≤ Int32.toNatClampNeg s.1 then none else
    if (1 : Int32) < 0 ∨ 4 ≤ Int32.toNatClampNeg (1 : Int32) then none else
    if s.1 < 0 ∨ 10 ≤ Int32.toNatClampNeg s.1 then none else
    K63 ((s.1 + (1 : Int32)), (wt_sa q28 320 (Int32.toNatClampNeg s.1) ((wt_ga q28 287 (Int32.toNatClampNeg x1)) * (wt_ga q28 (264 + Int32.toNatClampNeg s.1) (Int32.toNatClampNeg (1 : Int32))))))
set_option maxRecDepth 100000 in
set_option maxHeartbeats 4000000 in
theorem wp_md_boundOf_B63_ok  {x1 : Int32} {x2 : Int32} {x3 : Int32} {x4 : Int32} {X : wt_X} {n : Nat} {res : Int32 × wt_St} (hE : wt_Ok X prog_13_method_81_code 7 "WornTypeModel" 2 0) (hR : wt_Rt X (some .int) (some res.1) res.2) (hD : ∀ i, 108 ≤ i → i < 321 → wt_dom (wt_xw X) i)  {K63 : Int32 × wt_St → Option (Int32 × wt_St)} (hK63 : ∀ s : Int32 × wt_St, K63 s = some res → wt_V X 0 s.2 63 [some (.ref (wt_ad (wt_xw X) 108)), some (.int x1), some (.int x2), some (.int x3), some (.int x4), some (.int s.1), none] []) {s : Int32 × wt_St} (h : wp_md_boundOf_B63 n x1 x2 x3 x4 K63 s = some res) : wt_V X 0 s.2 63 [some (.ref (wt_ad (wt_xw X) 108)), some (.int x1), some (.int x2), some (.int x3), some (.int x4), some (.int s.1), none] [] := by
  unfold wp_md_boundOf_B63 at h
  refine wt_iload hE wp_md_boundOf_d63 rfl ?_
  refine wt_aload_n hE wp_md_boundOf_d65 rfl ?_
  refine wt_geti hE wt_lf_md_268 (hD 108 (by decide) (by decide)) wt_L108 rfl wp_md_boundOf_d66 ?_
  refine wt_icmp_ge hE 114 wp_md_boundOf_d69 rfl (fun c3 => ?_) (fun c3 => ?_)
  · have h := wt_ip c3 h
    refine wt_wk [true, false, true, true, true, false, true] rfl ?_
    exact wt_it_ind (fun z => wt_V X 0 z.2.2.2 114 [some (.ref (wt_ad (wt_xw X) 108)), none, some (.int z.1), some (.int z.2.1), some (.int z.2.2.1), none, none] []) (fun K hK z h => wp_md_boundOf_B114_ok hE hR hD hK h) n (x2, x3, x4, s.2) h
  · have h := wt_in c3 h
    refine wt_aload_n hE wp_md_boundOf_d72 rfl ?_
    refine wt_aload_n hE wp_md_boundOf_d73 rfl ?_
    refine wt_getr hE (r := 263) wt_lf_md_94 (hD 108 (by decide) (by decide)) wt_L108 rfl wp_md_boundOf_d74 ?_
    refine wt_iload hE wp_md_boundOf_d77 rfl ?_
    obtain ⟨g26, h⟩ := wt_gd h
    have lg26 := wt_lt g26
    refine wt_aald1 hE (hD 263 (by decide) (by decide)) wt_L263 g26 wp_md_boundOf_d79 ?_
    refine wt_iconst hE (0 : Int32) wp_md_boundOf_d80 wt_ci_0 ?_
    obtain ⟨g27, h⟩ := wt_gd h
    refine wt_iald hE (hD _ (by omega) (by omega)) (wt_G264 _ lg26) g27 wp_md_boundOf_d81 ?_
    obtain ⟨q28, hq28, h⟩ := wt_bi h
    refine wt_callVv hE [.int (wt_ga s.2 (264 + Int32.toNatClampNeg s.1) (Int32.toNatClampNeg (0 : Int32)))] wt_lm_md_310 wt_ya_md_needsText (wp_md_needsText_ok hD hq28) (by omega) (hD 108 (by decide) (by decide)) wt_L108 rfl rfl rfl (Nat.le_of_ble_eq_true rfl) (Nat.zero_le _) wp_md_boundOf_d82 ?_
    refine wt_aload_n hE wp_md_boundOf_d85 rfl ?_
    refine wt_getr hE (r := 320) wt_lf_md_142 (hD 108 (by decide) (by decide)) wt_L108 rfl wp_md_boundOf_d86 ?_
    refine wt_iload hE wp_md_boundOf_d89 rfl ?_
    refine wt_aload_n hE wp_md_boundOf_d91 rfl ?_
    refine wt_getr hE (r := 287) wt_lf_md_115 (hD 108 (by decide) (by decide)) wt_L108 rfl wp_md_boundOf_d92 ?_
    refine wt_iload_n hE wp_md_boundOf_d95 rfl ?_
    obtain ⟨g29, h⟩ := wt_gd h
    refine wt_iald hE (hD 287 (by decide) (by decide)) wt_L287 g29 wp_md_boundOf_d96 ?_
    refine wt_aload_n hE wp_md_boundOf_d97 rfl ?_
    refine wt_getr hE (r := 263) wt_lf_md_94 (hD 108 (by decide) (by decide)) wt_L108 rfl wp_md_boundOf_d98 ?_
    refine wt_iload hE wp_md_boundOf_d101 rfl ?_
    obtain ⟨g30, h⟩ := wt_gd h
    have lg30 := wt_lt g30
    refine wt_aald1 hE (hD 263 (by decide) (by decide)) wt_L263 g30 wp_md_boundOf_d103 ?_
    refine wt_iconst hE (1 : Int32) wp_md_boundOf_d104 wt_ci_1 ?_
    obtain ⟨g31, h⟩ := wt_gd h
    refine wt_iald hE (hD _ (by omega) (by omega)) (wt_G264 _ lg30) g31 wp_md_boundOf_d105 ?_
    refine wt_imul hE wp_md_boundOf_d106 ?_
    obtain ⟨g32, h⟩ := wt_gd h
    refine wt_iast hE (hD 320 (by decide) (by decide)) wt_L320 g32 wp_md_boundOf_d107 ?_
    refine wt_iinc hE (s.1 + (1 : Int32)) [some (.ref (wt_ad (wt_xw X) 108)), some (.int x1), some (.int x2), some (.int x3), some (.int x4), some (.int (s.1 + (1 : Int32))), none] wp_md_boundOf_d108 (by decide) rfl rfl rfl ?_
    refine wt_goto hE 63 wp_md_boundOf_d111 rfl ?_
    exact hK63 ((s.1 + (1 : Int32)), (wt_sa q28 320 (Int32.toNatClampNeg s.1) ((wt_ga q28 287 (Int32.toNatClampNeg x1)) * (wt_ga q28 (264 + Int32.toNatClampNeg s.1) (Int32.toNatClampNeg (1 : Int32)))))) h
noncomputable def wp_md_boundOf_B52 (n : Nat) (x1 : Int32) (x3 : Int32) (x4 : Int32) (x5 : Int32) (K10 : Int32 × Int32 × wt_St → Option (Int32 × wt_St)) (y0 : Int32) (y1 : Int32) (σ : wt_St) : Option (Int32 × wt_St) :=
  K10 ((y0 + y1), (x5 + (1 : Int32)), σ)
set_option maxRecDepth 100000 in
set_option maxHeartbeats 4000000 in
theorem wp_md_boundOf_B52_ok  {x1 : Int32} {x3 : Int32} {x4 : Int32} {x5 : Int32} {X : wt_X} {n : Nat} {res : Int32 × wt_St} (hE : wt_Ok X prog_13_method_81_code 7 "WornTypeModel" 2 0) (hR : wt_Rt X (some .int) (some res.1) res.2) (hD : ∀ i, 108 ≤ i → i < 321 → wt_dom (wt_xw X) i)  {K10 : Int32 × Int32 × wt_St → Option (Int32 × wt_St)} (hK10 : ∀ s : Int32 × Int32 × wt_St, K10 s = some res → wt_V X 0 s.2.2 10 [some (.ref (wt_ad (wt_xw X) 108)), some (.int x1), some (.int s.1), some (.int x3), some (.int x4), some (.int s.2.1), none] []) {σ : wt_St} {y0 : Int32} {y1 : Int32} (h : wp_md_boundOf_B52 n x1 x3 x4 x5 K10 y0 y1 σ = some res) : wt_V X 0 σ 52 [some (.ref (wt_ad (wt_xw X) 108)), some (.int x1), none, some (.int x3), some (.int x4), some (.int x5), none] [.int y1, .int y0] := by
  unfold wp_md_boundOf_B52 at h
  refine wt_iadd hE wp_md_boundOf_d52 ?_
  refine wt_istore_n hE [some (.ref (wt_ad (wt_xw X) 108)), some (.int x1), some (.int (y0 + y1)), some (.int x3), some (.int x4), some (.int x5), none] wp_md_boundOf_d53 (by decide) rfl ?_
  refine wt_iinc hE (x5 + (1 : Int32)) [some (.ref (wt_ad (wt_xw X) 108)), some (.int x1), some (.int (y0 + y1)), some (.int x3), some (.int x4), some (.int (x5 + (1 : Int32))), none] wp_md_boundOf_d54 (by decide) rfl rfl rfl ?_
  refine wt_goto hE 10 wp_md_boundOf_d57 rfl ?_
  exact hK10 ((y0 + y1), (x5 + (1 : Int32)), σ) h
noncomputable def wp_md_boundOf_B10 (n : Nat) (x1 : Int32) (x3 : Int32) (x4 : Int32) (K10 : Int32 × Int32 × wt_St → Option (Int32 × wt_St)) (s : Int32 × Int32 × wt_St) : Option (Int32 × wt_St) :=
  if x1 < 0 ∨ 26 ≤ Int32.toNatClampNeg x1 then none else
  if (wt_ga s.2.2 111 (Int32.toNatClampNeg x1)) ≤ s.2.1 then
    wt_it (wp_md_boundOf_B63 n x1 s.1 x3 x4) n ((0 : Int32), s.2.2)
  else
    (wp_md_cell n x1 s.2.1 s.2.2).bind fun q33 =>
    if q33.1 < 0 ∨ 338 ≤ Int32.toNatClampNeg q33.1 then none else
    if (wt_ga q33.2 124 (Int32.toNatClampNeg q33.1)) = (-1 : Int32) then
      (wp_md_cell n x1 s.2.1 q33.2).bind fun q36 =>
      if q36.1 < 0 ∨ 338 ≤ Int32.toNatClampNeg q36.1 then none else
      wp_md_boundOf_B52 n x1 x3 x4 s.2.1 K10 s.1 (wt_ga q36.2 121 (Int32.toNatClampNeg q36.1)) q36.2
    else
      wp_md_boundOf_B52 n x1 x3 x4 s.2.1 K10 s.1 (0 : Int32) q33.2
set_option maxRecDepth 100000 in
set_option maxHeartbeats 4000000 in
theorem wp_md_boundOf_B10_ok  {x1 : Int32} {x3 : Int32} {x4 : Int32} {X : wt_X} {n : Nat} {res : Int32 × wt_St} (hE : wt_Ok X prog_13_method_81_code 7 "WornTypeModel" 2 0) (hR : wt_Rt X (some .int) (some res.1) res.2) (hD : ∀ i, 108 ≤ i → i < 321 → wt_dom (wt_xw X) i)  {K10 : Int32 × Int32 × wt_St → Option (Int32 × wt_St)} (hK10 : ∀ s : Int32 × Int32 × wt_St, K10 s = some res → wt_V X 0 s.2.2 10 [some (.ref (wt_ad (wt_xw X) 108)), some (.int x1), some (.int s.1), some (.int x3), some (.int x4), some (.int s.2.1), none] []) {s : Int32 × Int32 × wt_St} (h : wp_md_boundOf_B10 n x1 x3 x4 K10 s = some res) : wt_V X 0 s.2.2 10 [some (.ref (wt_ad (wt_xw X) 108)), some (.int x1), some (.int s.1), some (.int x3), some (.int x4), some (.int s.2.1), none] [] := by
  unfold wp_md_boundOf_B10 at h
  refine wt_iload hE wp_md_boundOf_d10 rfl ?_
  refine wt_aload_n hE wp_md_boundOf_d12 rfl ?_
  refine wt_getr hE (r := 111) wt_lf_md_20 (hD 108 (by decide) (by decide)) wt_L108 rfl wp_md_boundOf_d13 ?_
  refine wt_iload_n hE wp_md_boundOf_d16 rfl ?_
  obtain ⟨g1, h⟩ := wt_gd h
  refine wt_iald hE (hD 111 (by decide) (by decide)) wt_L111 g1 wp_md_boundOf_d17 ?_
  refine wt_icmp_ge hE 60 wp_md_boundOf_d18 rfl (fun c2 => ?_) (fun c2 => ?_)
  · have h := wt_ip c2 h
    refine wt_iconst hE (0 : Int32) wp_md_boundOf_d60 wt_ci_0 ?_
    refine wt_istore hE [some (.ref (wt_ad (wt_xw X) 108)), some (.int x1), some (.int s.1), some (.int x3), some (.int x4), some (.int (0 : Int32)), none] wp_md_boundOf_d61 (Nat.le_of_ble_eq_true rfl) rfl ?_
    exact wt_it_ind (fun z => wt_V X 0 z.2 63 [some (.ref (wt_ad (wt_xw X) 108)), some (.int x1), some (.int s.1), some (.int x3), some (.int x4), some (.int z.1), none] []) (fun K hK z h => wp_md_boundOf_B63_ok hE hR hD hK h) n ((0 : Int32), s.2.2) h
  · have h := wt_in c2 h
    refine wt_iload_n hE wp_md_boundOf_d21 rfl ?_
    refine wt_aload_n hE wp_md_boundOf_d22 rfl ?_
    refine wt_getr hE (r := 124) wt_lf_md_59 (hD 108 (by decide) (by decide)) wt_L108 rfl wp_md_boundOf_d23 ?_
    refine wt_iload_n hE wp_md_boundOf_d26 rfl ?_
    refine wt_iload hE wp_md_boundOf_d27 rfl ?_
    obtain ⟨q33, hq33, h⟩ := wt_bi h
    refine wt_callSi hE [.int x1, .int s.2.1] wt_lm_md_227 wt_ya_md_cell (wp_md_cell_ok hq33) (by omega) rfl rfl (Nat.le_of_ble_eq_true rfl) (Nat.zero_le _) wp_md_boundOf_d29 (fun hbq33 => ?_)
    obtain ⟨g34, h⟩ := wt_gd h
    refine wt_iald hE (hD 124 (by decide) (by decide)) wt_L124 g34 wp_md_boundOf_d32 ?_
    refine wt_iconst hE (-1 : Int32) wp_md_boundOf_d33 wt_ci_m1 ?_
    refine wt_icmp_ne hE 51 wp_md_boundOf_d34 rfl (fun c35 => ?_) (fun c35 => ?_)
    · have h := wt_in c35 h
      refine wt_iconst hE (0 : Int32) wp_md_boundOf_d51 wt_ci_0 ?_
      refine wt_wk [true, true, false, true, true, true, true] rfl ?_
      exact wp_md_boundOf_B52_ok hE hR hD hK10 h
    · have h := wt_ip c35 h
      refine wt_aload_n hE wp_md_boundOf_d37 rfl ?_
      refine wt_getr hE (r := 121) wt_lf_md_50 (hD 108 (by decide) (by decide)) wt_L108 rfl wp_md_boundOf_d38 ?_
      refine wt_iload_n hE wp_md_boundOf_d41 rfl ?_
      refine wt_iload hE wp_md_boundOf_d42 rfl ?_
      obtain ⟨q36, hq36, h⟩ := wt_bi h
      refine wt_callSi hE [.int x1, .int s.2.1] wt_lm_md_227 wt_ya_md_cell (wp_md_cell_ok hq36) (by omega) rfl rfl (Nat.le_of_ble_eq_true rfl) (Nat.zero_le _) wp_md_boundOf_d44 (fun hbq36 => ?_)
      obtain ⟨g37, h⟩ := wt_gd h
      refine wt_iald hE (hD 121 (by decide) (by decide)) wt_L121 g37 wp_md_boundOf_d47 ?_
      refine wt_goto hE 52 wp_md_boundOf_d48 rfl ?_
      refine wt_wk [true, true, false, true, true, true, true] rfl ?_
      exact wp_md_boundOf_B52_ok hE hR hD hK10 h
noncomputable def wp_md_boundOf (n : Nat) (x1 : Int32) (σ : wt_St) : Option (Int32 × wt_St) :=
  wt_it (wp_md_boundOf_B10 n x1 (0 : Int32) (0 : Int32)) n ((0 : Int32), (0 : Int32), σ)
set_option maxRecDepth 100000 in
set_option maxHeartbeats 4000000 in
theorem wp_md_boundOf_ok {l : Launch} {w : wt_E} {n : Nat} {x1 : Int32} (hD : ∀ i, 108 ≤ i → i < 321 → wt_dom w i) {σ : wt_St} {q : Int32 × wt_St} (h : wp_md_boundOf n x1 σ = some q) : wt_Ctr l w wt_y_md_boundOf prog_13_method_81_code 7 (some .int) 2 [.ref (wt_ad w 108), .int x1] σ (some q.1) q.2 := by
  refine wt_ctr wt_pl_md_boundOf rfl (Nat.le_of_ble_eq_true rfl) [some (.ref (wt_ad w 108)), some (.int x1), none, none, none, none, none] rfl ?_
  intro X hXl hXw hE hR
  subst hXl
  subst hXw
  have hE : wt_Ok X prog_13_method_81_code 7 "WornTypeModel" 2 0 := hE
  unfold wp_md_boundOf at h
  refine wt_iconst hE (0 : Int32) wp_md_boundOf_d0 wt_ci_0 ?_
  refine wt_istore_n hE [some (.ref (wt_ad (wt_xw X) 108)), some (.int x1), some (.int (0 : Int32)), none, none, none, none] wp_md_boundOf_d1 (by decide) rfl ?_
  refine wt_iconst hE (0 : Int32) wp_md_boundOf_d2 wt_ci_0 ?_
  refine wt_istore_n hE [some (.ref (wt_ad (wt_xw X) 108)), some (.int x1), some (.int (0 : Int32)), some (.int (0 : Int32)), none, none, none] wp_md_boundOf_d3 (by decide) rfl ?_
  refine wt_iconst hE (0 : Int32) wp_md_boundOf_d4 wt_ci_0 ?_
  refine wt_istore hE [some (.ref (wt_ad (wt_xw X) 108)), some (.int x1), some (.int (0 : Int32)), some (.int (0 : Int32)), some (.int (0 : Int32)), none, none] wp_md_boundOf_d5 (Nat.le_of_ble_eq_true rfl) rfl ?_
  refine wt_iconst hE (0 : Int32) wp_md_boundOf_d7 wt_ci_0 ?_
  refine wt_istore hE [some (.ref (wt_ad (wt_xw X) 108)), some (.int x1), some (.int (0 : Int32)), some (.int (0 : Int32)), some (.int (0 : Int32)), some (.int (0 : Int32)), none] wp_md_boundOf_d8 (Nat.le_of_ble_eq_true rfl) rfl ?_
  exact wt_it_ind (fun z => wt_V X 0 z.2.2 10 [some (.ref (wt_ad (wt_xw X) 108)), some (.int x1), some (.int z.1), some (.int (0 : Int32)), some (.int (0 : Int32)), some (.int z.2.1), none] []) (fun K hK z h => wp_md_boundOf_B10_ok hE hR hD hK h) n ((0 : Int32), (0 : Int32), σ) h
