def wb20m10_prog_13_method_71_code_r5 : List (List Nat) := [180, 1, 12, 172] :: []
def wb20m10_prog_13_method_71_code_r4 : List (List Nat) := [50, 5, 29, 79, 42, 180, 0, 94, 42, 180, 1, 12, 50, 6, 21, 4, 79, 42, 89, 180, 1, 12, 4, 96, 181, 1, 12, 42] :: wb20m10_prog_13_method_71_code_r5
def wb20m10_prog_13_method_71_code_r3 : List (List Nat) := [42, 180, 1, 12, 50, 3, 27, 79, 42, 180, 0, 94, 42, 180, 1, 12, 50, 4, 28, 79, 42, 180, 0, 94, 42, 180, 1, 12] :: wb20m10_prog_13_method_71_code_r4
def wb20m10_prog_13_method_71_code_r2 : List (List Nat) := [4, 167, 0, 4, 3, 5, 182, 0, 230, 153, 0, 5, 3, 172, 42, 180, 1, 12, 16, 10, 160, 0, 5, 2, 172, 42, 180, 0, 94] :: wb20m10_prog_13_method_71_code_r3
def wb20m10_prog_13_method_71_code_r1 : List (List Nat) := [184, 1, 57, 153, 0, 25, 29, 3, 16, 99, 184, 0, 185, 153, 0, 15, 21, 4, 4, 17, 3, 231, 184, 0, 185, 154, 0, 7] :: wb20m10_prog_13_method_71_code_r2
def wb20m10_prog_13_method_71_code_r0 : List (List Nat) := [42, 3, 181, 0, 151, 42, 42, 27, 182, 1, 51, 154, 0, 7, 4, 167, 0, 4, 3, 4, 182, 0, 230, 154, 0, 45, 42, 28] :: wb20m10_prog_13_method_71_code_r1
set_option maxRecDepth 100000 in
theorem wb20m10_prog_13_method_71_code_c0 : wt_cs prog_13_method_71_code 0 wb20m10_prog_13_method_71_code_r0 := wt_cs_of (by decide +kernel)
theorem wb20m10_prog_13_method_71_code_c1 : wt_cs prog_13_method_71_code 28 wb20m10_prog_13_method_71_code_r1 := wt_cs_tl (m := 28) wb20m10_prog_13_method_71_code_c0 rfl rfl
theorem wb20m10_prog_13_method_71_code_c2 : wt_cs prog_13_method_71_code 56 wb20m10_prog_13_method_71_code_r2 := wt_cs_tl (m := 28) wb20m10_prog_13_method_71_code_c1 rfl rfl
theorem wb20m10_prog_13_method_71_code_c3 : wt_cs prog_13_method_71_code 85 wb20m10_prog_13_method_71_code_r3 := wt_cs_tl (m := 29) wb20m10_prog_13_method_71_code_c2 rfl rfl
theorem wb20m10_prog_13_method_71_code_c4 : wt_cs prog_13_method_71_code 113 wb20m10_prog_13_method_71_code_r4 := wt_cs_tl (m := 28) wb20m10_prog_13_method_71_code_c3 rfl rfl
theorem wb20m10_prog_13_method_71_code_c5 : wt_cs prog_13_method_71_code 141 wb20m10_prog_13_method_71_code_r5 := wt_cs_tl (m := 28) wb20m10_prog_13_method_71_code_c4 rfl rfl
theorem wp_md_want_d0 : decode prog_13_method_71_code 0 = .ok (.aload_n 0, 1) := wt_op42 wb20m10_prog_13_method_71_code_c0 0 rfl rfl
theorem wp_md_want_d1 : decode prog_13_method_71_code 1 = .ok (.iconst 0, 1) := wt_op3 wb20m10_prog_13_method_71_code_c0 1 rfl rfl
theorem wp_md_want_d2 : decode prog_13_method_71_code 2 = .ok (.putfield 151, 3) := wt_op181 wb20m10_prog_13_method_71_code_c0 2 rfl rfl rfl
theorem wp_md_want_d5 : decode prog_13_method_71_code 5 = .ok (.aload_n 0, 1) := wt_op42 wb20m10_prog_13_method_71_code_c0 5 rfl rfl
theorem wp_md_want_d6 : decode prog_13_method_71_code 6 = .ok (.aload_n 0, 1) := wt_op42 wb20m10_prog_13_method_71_code_c0 6 rfl rfl
theorem wp_md_want_d7 : decode prog_13_method_71_code 7 = .ok (.iload_n 1, 1) := wt_op27 wb20m10_prog_13_method_71_code_c0 7 rfl rfl
theorem wp_md_want_d8 : decode prog_13_method_71_code 8 = .ok (.invokevirtual 307, 3) := wt_op182 wb20m10_prog_13_method_71_code_c0 8 rfl rfl rfl
theorem wp_md_want_d11 : decode prog_13_method_71_code 11 = .ok (.ifCond .ne 7, 3) := wt_op154 wb20m10_prog_13_method_71_code_c0 11 rfl rfl rfl
theorem wp_md_want_d14 : decode prog_13_method_71_code 14 = .ok (.iconst 1, 1) := wt_op4 wb20m10_prog_13_method_71_code_c0 14 rfl rfl
theorem wp_md_want_d15 : decode prog_13_method_71_code 15 = .ok (.goto 4, 3) := wt_op167 wb20m10_prog_13_method_71_code_c0 15 rfl rfl rfl
theorem wp_md_want_d18 : decode prog_13_method_71_code 18 = .ok (.iconst 0, 1) := wt_op3 wb20m10_prog_13_method_71_code_c0 18 rfl rfl
theorem wp_md_want_d19 : decode prog_13_method_71_code 19 = .ok (.iconst 1, 1) := wt_op4 wb20m10_prog_13_method_71_code_c0 19 rfl rfl
theorem wp_md_want_d20 : decode prog_13_method_71_code 20 = .ok (.invokevirtual 230, 3) := wt_op182 wb20m10_prog_13_method_71_code_c0 20 rfl rfl rfl
theorem wp_md_want_d23 : decode prog_13_method_71_code 23 = .ok (.ifCond .ne 45, 3) := wt_op154 wb20m10_prog_13_method_71_code_c0 23 rfl rfl rfl
theorem wp_md_want_d26 : decode prog_13_method_71_code 26 = .ok (.aload_n 0, 1) := wt_op42 wb20m10_prog_13_method_71_code_c0 26 rfl rfl
theorem wp_md_want_d27 : decode prog_13_method_71_code 27 = .ok (.iload_n 2, 1) := wt_op28 wb20m10_prog_13_method_71_code_c0 27 rfl rfl
theorem wp_md_want_d28 : decode prog_13_method_71_code 28 = .ok (.invokestatic 313, 3) := wt_op184 wb20m10_prog_13_method_71_code_c1 0 rfl rfl rfl
theorem wp_md_want_d31 : decode prog_13_method_71_code 31 = .ok (.ifCond .eq 25, 3) := wt_op153 wb20m10_prog_13_method_71_code_c1 3 rfl rfl rfl
theorem wp_md_want_d34 : decode prog_13_method_71_code 34 = .ok (.iload_n 3, 1) := wt_op29 wb20m10_prog_13_method_71_code_c1 6 rfl rfl
theorem wp_md_want_d35 : decode prog_13_method_71_code 35 = .ok (.iconst 0, 1) := wt_op3 wb20m10_prog_13_method_71_code_c1 7 rfl rfl
theorem wp_md_want_d36 : decode prog_13_method_71_code 36 = .ok (.bipush 99, 2) := wt_op16 wb20m10_prog_13_method_71_code_c1 8 rfl rfl rfl
theorem wp_md_want_d38 : decode prog_13_method_71_code 38 = .ok (.invokestatic 185, 3) := wt_op184 wb20m10_prog_13_method_71_code_c1 10 rfl rfl rfl
theorem wp_md_want_d41 : decode prog_13_method_71_code 41 = .ok (.ifCond .eq 15, 3) := wt_op153 wb20m10_prog_13_method_71_code_c1 13 rfl rfl rfl
theorem wp_md_want_d44 : decode prog_13_method_71_code 44 = .ok (.iload 4, 2) := wt_op21 wb20m10_prog_13_method_71_code_c1 16 rfl rfl
theorem wp_md_want_d46 : decode prog_13_method_71_code 46 = .ok (.iconst 1, 1) := wt_op4 wb20m10_prog_13_method_71_code_c1 18 rfl rfl
theorem wp_md_want_d47 : decode prog_13_method_71_code 47 = .ok (.sipush 999, 3) := wt_op17 wb20m10_prog_13_method_71_code_c1 19 rfl rfl rfl
theorem wp_md_want_d50 : decode prog_13_method_71_code 50 = .ok (.invokestatic 185, 3) := wt_op184 wb20m10_prog_13_method_71_code_c1 22 rfl rfl rfl
theorem wp_md_want_d53 : decode prog_13_method_71_code 53 = .ok (.ifCond .ne 7, 3) := wt_op154 wb20m10_prog_13_method_71_code_c1 25 rfl rfl rfl
theorem wp_md_want_d56 : decode prog_13_method_71_code 56 = .ok (.iconst 1, 1) := wt_op4 wb20m10_prog_13_method_71_code_c2 0 rfl rfl
theorem wp_md_want_d57 : decode prog_13_method_71_code 57 = .ok (.goto 4, 3) := wt_op167 wb20m10_prog_13_method_71_code_c2 1 rfl rfl rfl
theorem wp_md_want_d60 : decode prog_13_method_71_code 60 = .ok (.iconst 0, 1) := wt_op3 wb20m10_prog_13_method_71_code_c2 4 rfl rfl
theorem wp_md_want_d61 : decode prog_13_method_71_code 61 = .ok (.iconst 2, 1) := wt_op5 wb20m10_prog_13_method_71_code_c2 5 rfl rfl
theorem wp_md_want_d62 : decode prog_13_method_71_code 62 = .ok (.invokevirtual 230, 3) := wt_op182 wb20m10_prog_13_method_71_code_c2 6 rfl rfl rfl
theorem wp_md_want_d65 : decode prog_13_method_71_code 65 = .ok (.ifCond .eq 5, 3) := wt_op153 wb20m10_prog_13_method_71_code_c2 9 rfl rfl rfl
theorem wp_md_want_d68 : decode prog_13_method_71_code 68 = .ok (.iconst 0, 1) := wt_op3 wb20m10_prog_13_method_71_code_c2 12 rfl rfl
theorem wp_md_want_d69 : decode prog_13_method_71_code 69 = .ok (.ireturn, 1) := wt_op172 wb20m10_prog_13_method_71_code_c2 13 rfl rfl
theorem wp_md_want_d70 : decode prog_13_method_71_code 70 = .ok (.aload_n 0, 1) := wt_op42 wb20m10_prog_13_method_71_code_c2 14 rfl rfl
theorem wp_md_want_d71 : decode prog_13_method_71_code 71 = .ok (.getfield 268, 3) := wt_op180 wb20m10_prog_13_method_71_code_c2 15 rfl rfl rfl
theorem wp_md_want_d74 : decode prog_13_method_71_code 74 = .ok (.bipush 10, 2) := wt_op16 wb20m10_prog_13_method_71_code_c2 18 rfl rfl rfl
theorem wp_md_want_d76 : decode prog_13_method_71_code 76 = .ok (.if_icmp .ne 5, 3) := wt_op160 wb20m10_prog_13_method_71_code_c2 20 rfl rfl rfl
theorem wp_md_want_d79 : decode prog_13_method_71_code 79 = .ok (.iconst (-1), 1) := wt_op2 wb20m10_prog_13_method_71_code_c2 23 rfl rfl
theorem wp_md_want_d80 : decode prog_13_method_71_code 80 = .ok (.ireturn, 1) := wt_op172 wb20m10_prog_13_method_71_code_c2 24 rfl rfl
theorem wp_md_want_d81 : decode prog_13_method_71_code 81 = .ok (.aload_n 0, 1) := wt_op42 wb20m10_prog_13_method_71_code_c2 25 rfl rfl
theorem wp_md_want_d82 : decode prog_13_method_71_code 82 = .ok (.getfield 94, 3) := wt_op180 wb20m10_prog_13_method_71_code_c2 26 rfl rfl rfl
theorem wp_md_want_d85 : decode prog_13_method_71_code 85 = .ok (.aload_n 0, 1) := wt_op42 wb20m10_prog_13_method_71_code_c3 0 rfl rfl
theorem wp_md_want_d86 : decode prog_13_method_71_code 86 = .ok (.getfield 268, 3) := wt_op180 wb20m10_prog_13_method_71_code_c3 1 rfl rfl rfl
theorem wp_md_want_d89 : decode prog_13_method_71_code 89 = .ok (.aaload, 1) := wt_op50 wb20m10_prog_13_method_71_code_c3 4 rfl rfl
theorem wp_md_want_d90 : decode prog_13_method_71_code 90 = .ok (.iconst 0, 1) := wt_op3 wb20m10_prog_13_method_71_code_c3 5 rfl rfl
theorem wp_md_want_d91 : decode prog_13_method_71_code 91 = .ok (.iload_n 1, 1) := wt_op27 wb20m10_prog_13_method_71_code_c3 6 rfl rfl
theorem wp_md_want_d92 : decode prog_13_method_71_code 92 = .ok (.iastore, 1) := wt_op79 wb20m10_prog_13_method_71_code_c3 7 rfl rfl
theorem wp_md_want_d93 : decode prog_13_method_71_code 93 = .ok (.aload_n 0, 1) := wt_op42 wb20m10_prog_13_method_71_code_c3 8 rfl rfl
theorem wp_md_want_d94 : decode prog_13_method_71_code 94 = .ok (.getfield 94, 3) := wt_op180 wb20m10_prog_13_method_71_code_c3 9 rfl rfl rfl
theorem wp_md_want_d97 : decode prog_13_method_71_code 97 = .ok (.aload_n 0, 1) := wt_op42 wb20m10_prog_13_method_71_code_c3 12 rfl rfl
theorem wp_md_want_d98 : decode prog_13_method_71_code 98 = .ok (.getfield 268, 3) := wt_op180 wb20m10_prog_13_method_71_code_c3 13 rfl rfl rfl
theorem wp_md_want_d101 : decode prog_13_method_71_code 101 = .ok (.aaload, 1) := wt_op50 wb20m10_prog_13_method_71_code_c3 16 rfl rfl
theorem wp_md_want_d102 : decode prog_13_method_71_code 102 = .ok (.iconst 1, 1) := wt_op4 wb20m10_prog_13_method_71_code_c3 17 rfl rfl
theorem wp_md_want_d103 : decode prog_13_method_71_code 103 = .ok (.iload_n 2, 1) := wt_op28 wb20m10_prog_13_method_71_code_c3 18 rfl rfl
theorem wp_md_want_d104 : decode prog_13_method_71_code 104 = .ok (.iastore, 1) := wt_op79 wb20m10_prog_13_method_71_code_c3 19 rfl rfl
theorem wp_md_want_d105 : decode prog_13_method_71_code 105 = .ok (.aload_n 0, 1) := wt_op42 wb20m10_prog_13_method_71_code_c3 20 rfl rfl
theorem wp_md_want_d106 : decode prog_13_method_71_code 106 = .ok (.getfield 94, 3) := wt_op180 wb20m10_prog_13_method_71_code_c3 21 rfl rfl rfl
theorem wp_md_want_d109 : decode prog_13_method_71_code 109 = .ok (.aload_n 0, 1) := wt_op42 wb20m10_prog_13_method_71_code_c3 24 rfl rfl
theorem wp_md_want_d110 : decode prog_13_method_71_code 110 = .ok (.getfield 268, 3) := wt_op180 wb20m10_prog_13_method_71_code_c3 25 rfl rfl rfl
theorem wp_md_want_d113 : decode prog_13_method_71_code 113 = .ok (.aaload, 1) := wt_op50 wb20m10_prog_13_method_71_code_c4 0 rfl rfl
theorem wp_md_want_d114 : decode prog_13_method_71_code 114 = .ok (.iconst 2, 1) := wt_op5 wb20m10_prog_13_method_71_code_c4 1 rfl rfl
theorem wp_md_want_d115 : decode prog_13_method_71_code 115 = .ok (.iload_n 3, 1) := wt_op29 wb20m10_prog_13_method_71_code_c4 2 rfl rfl
theorem wp_md_want_d116 : decode prog_13_method_71_code 116 = .ok (.iastore, 1) := wt_op79 wb20m10_prog_13_method_71_code_c4 3 rfl rfl
theorem wp_md_want_d117 : decode prog_13_method_71_code 117 = .ok (.aload_n 0, 1) := wt_op42 wb20m10_prog_13_method_71_code_c4 4 rfl rfl
theorem wp_md_want_d118 : decode prog_13_method_71_code 118 = .ok (.getfield 94, 3) := wt_op180 wb20m10_prog_13_method_71_code_c4 5 rfl rfl rfl
theorem wp_md_want_d121 : decode prog_13_method_71_code 121 = .ok (.aload_n 0, 1) := wt_op42 wb20m10_prog_13_method_71_code_c4 8 rfl rfl
theorem wp_md_want_d122 : decode prog_13_method_71_code 122 = .ok (.getfield 268, 3) := wt_op180 wb20m10_prog_13_method_71_code_c4 9 rfl rfl rfl
theorem wp_md_want_d125 : decode prog_13_method_71_code 125 = .ok (.aaload, 1) := wt_op50 wb20m10_prog_13_method_71_code_c4 12 rfl rfl
theorem wp_md_want_d126 : decode prog_13_method_71_code 126 = .ok (.iconst 3, 1) := wt_op6 wb20m10_prog_13_method_71_code_c4 13 rfl rfl
theorem wp_md_want_d127 : decode prog_13_method_71_code 127 = .ok (.iload 4, 2) := wt_op21 wb20m10_prog_13_method_71_code_c4 14 rfl rfl
theorem wp_md_want_d129 : decode prog_13_method_71_code 129 = .ok (.iastore, 1) := wt_op79 wb20m10_prog_13_method_71_code_c4 16 rfl rfl
theorem wp_md_want_d130 : decode prog_13_method_71_code 130 = .ok (.aload_n 0, 1) := wt_op42 wb20m10_prog_13_method_71_code_c4 17 rfl rfl
theorem wp_md_want_d131 : decode prog_13_method_71_code 131 = .ok (.dup, 1) := wt_op89 wb20m10_prog_13_method_71_code_c4 18 rfl rfl
theorem wp_md_want_d132 : decode prog_13_method_71_code 132 = .ok (.getfield 268, 3) := wt_op180 wb20m10_prog_13_method_71_code_c4 19 rfl rfl rfl
theorem wp_md_want_d135 : decode prog_13_method_71_code 135 = .ok (.iconst 1, 1) := wt_op4 wb20m10_prog_13_method_71_code_c4 22 rfl rfl
theorem wp_md_want_d136 : decode prog_13_method_71_code 136 = .ok (.iadd, 1) := wt_op96 wb20m10_prog_13_method_71_code_c4 23 rfl rfl
theorem wp_md_want_d137 : decode prog_13_method_71_code 137 = .ok (.putfield 268, 3) := wt_op181 wb20m10_prog_13_method_71_code_c4 24 rfl rfl rfl
theorem wp_md_want_d140 : decode prog_13_method_71_code 140 = .ok (.aload_n 0, 1) := wt_op42 wb20m10_prog_13_method_71_code_c4 27 rfl rfl
theorem wp_md_want_d141 : decode prog_13_method_71_code 141 = .ok (.getfield 268, 3) := wt_op180 wb20m10_prog_13_method_71_code_c5 0 rfl rfl rfl
theorem wp_md_want_d144 : decode prog_13_method_71_code 144 = .ok (.ireturn, 1) := wt_op172 wb20m10_prog_13_method_71_code_c5 3 rfl rfl
noncomputable def wp_md_want_B61 (n : Nat) (x1 : Int32) (x2 : Int32) (x3 : Int32) (x4 : Int32) (y1 : Int32) (σ : wt_St) : Option (Int32 × wt_St) :=
  (wp_md_bad n y1 (2 : Int32) σ).bind fun q7 =>
  if q7.1 = 0 then
    if (wt_gf q7.2 108 40) = (10 : Int32) then
      some ((-1 : Int32), q7.2)
    else
      if (wt_gf q7.2 108 40) < 0 ∨ 10 ≤ Int32.toNatClampNeg (wt_gf q7.2 108 40) then none else
      if (0 : Int32) < 0 ∨ 4 ≤ Int32.toNatClampNeg (0 : Int32) then none else
      if (wt_gf (wt_sa q7.2 (264 + Int32.toNatClampNeg (wt_gf q7.2 108 40)) (Int32.toNatClampNeg (0 : Int32)) x1) 108 40) < 0 ∨ 10 ≤ Int32.toNatClampNeg (wt_gf (wt_sa q7.2 (264 + Int32.toNatClampNeg (wt_gf q7.2 108 40)) (Int32.toNatClampNeg (0 : Int32)) x1) 108 40) then none else
      if (1 : Int32) < 0 ∨ 4 ≤ Int32.toNatClampNeg (1 : Int32) then none else
      if (wt_gf (wt_sa (wt_sa q7.2 (264 + Int32.toNatClampNeg (wt_gf q7.2 108 40)) (Int32.toNatClampNeg (0 : Int32)) x1) (264 + Int32.toNatClampNeg (wt_gf (wt_sa q7.2 (264 + Int32.toNatClampNeg (wt_gf q7.2 108 40)) (Int32.toNatClampNeg (0 : Int32)) x1) 108 40)) (Int32.toNatClampNeg (1 : Int32)) x2) 108 40) < 0 ∨ 10 ≤ Int32.toNatClampNeg (wt_gf (wt_sa (wt_sa q7.2 (264 + Int32.toNatClampNeg (wt_gf q7.2 108 40)) (Int32.toNatClampNeg (0 : Int32)) x1) (264 + Int32.toNatClampNeg (wt_gf (wt_sa q7.2 (264 + Int32.toNatClampNeg (wt_gf q7.2 108 40)) (Int32.toNatClampNeg (0 : Int32)) x1) 108 40)) (Int32.toNatClampNeg (1 : Int32)) x2) 108 40) then none else
      if (2 : Int32) < 0 ∨ 4 ≤ Int32.toNatClampNeg (2 : Int32) then none else
      if (wt_gf (wt_sa (wt_sa (wt_sa q7.2 (264 + Int32.toNatClampNeg (wt_gf q7.2 108 40)) (Int32.toNatClampNeg (0 : Int32)) x1) (264 + Int32.toNatClampNeg (wt_gf (wt_sa q7.2 (264 + Int32.toNatClampNeg (wt_gf q7.2 108 40)) (Int32.toNatClampNeg (0 : Int32)) x1) 108 40)) (Int32.toNatClampNeg (1 : Int32)) x2) (264 + Int32.toNatClampNeg (wt_gf (wt_sa (wt_sa q7.2 (264 + Int32.toNatClampNeg (wt_gf q7.2 108 40)) (Int32.toNatClampNeg (0 : Int32)) x1) (264 + Int32.toNatClampNeg (wt_gf (wt_sa q7.2 (264 + Int32.toNatClampNeg (wt_gf q7.2 108 40)) (Int32.toNatClampNeg (0 : Int32)) x1) 108 40)) (Int32.toNatClampNeg (1 : Int32)) x2) 108 40)) (Int32.toNatClampNeg (2 : Int32)) x3) 108 40) < 0 ∨ 10 ≤ Int32.toNatClampNeg (wt_gf (wt_sa (wt_sa (wt_sa q7.2 (264 + Int32.toNatClampNeg (wt_gf q7.2 108 40)) (Int32.toNatClampNeg (0 : Int32)) x1) (264 + Int32.toNatClampNeg (wt_gf (wt_sa q7.2 (264 + Int32.toNatClampNeg (wt_gf q7.2 108 40)) (Int32.toNatClampNeg (0 : Int32)) x1) 108 40)) (Int32.toNatClampNeg (1 : Int32)) x2) (264 + Int32.toNatClampNeg (wt_gf (wt_sa (wt_sa q7.2 (264 + Int32.toNatClampNeg (wt_gf q7.2 108 40)) (Int32.toNatClampNeg (0 : Int32)) x1) (264 + Int32.toNatClampNeg (wt_gf (wt_sa q7.2 (264 + Int32.toNatClampNeg (wt_gf q7.2 108 40)) (Int32.toNatClampNeg (0 : Int32)) x1) 108 40)) (Int32.toNatClampNeg (1 : Int32)) x2) 108 40)) (Int32.toNatClampNeg (2 : Int32)) x3) 108 40) then none else
      if (3 : Int32) < 0 ∨ 4 ≤ Int32.toNatClampNeg (3 : Int32) then none else
      some ((wt_gf (wt_sf (wt_sa (wt_sa (wt_sa (wt_sa q7.2 (264 + Int32.toNatClampNeg (wt_gf q7.2 108 40)) (Int32.toNatClampNeg (0 : Int32)) x1) (264 + Int32.toNatClampNeg (wt_gf (wt_sa q7.2 (264 + Int32.toNatClampNeg (wt_gf q7.2 108 40)) (Int32.toNatClampNeg (0 : Int32)) x1) 108 40)) (Int32.toNatClampNeg (1 : Int32)) x2) (264 + Int32.toNatClampNeg (wt_gf (wt_sa (wt_sa q7.2 (264 + Int32.toNatClampNeg (wt_gf q7.2 108 40)) (Int32.toNatClampNeg (0 : Int32)) x1) (264 + Int32.toNatClampNeg (wt_gf (wt_sa q7.2 (264 + Int32.toNatClampNeg (wt_gf q7.2 108 40)) (Int32.toNatClampNeg (0 : Int32)) x1) 108 40)) (Int32.toNatClampNeg (1 : Int32)) x2) 108 40)) (Int32.toNatClampNeg (2 : Int32)) x3) (264 + Int32.toNatClampNeg (wt_gf (wt_sa (wt_sa (wt_sa q7.2 (264 + Int32.toNatClampNeg (wt_gf q7.2 108 40)) (Int32.toNatClampNeg (0 : Int32)) x1) (264 + Int32.toNatClampNeg (wt_gf (wt_sa q7.2 (264 + Int32.toNatClampNeg (wt_gf q7.2 108 40)) (Int32.toNatClampNeg (0 : Int32)) x1) 108 40)) (Int32.toNatClampNeg (1 : Int32)) x2) (264 + Int32.toNatClampNeg (wt_gf (wt_sa (wt_sa q7.2 (264 + Int32.toNatClampNeg (wt_gf q7.2 108 40)) (Int32.toNatClampNeg (0 : Int32)) x1) (264 + Int32.toNatClampNeg (wt_gf (wt_sa q7.2 (264 + Int32.toNatClampNeg (wt_gf q7.2 108 40)) (Int32.toNatClampNeg (0 : Int32)) x1) 108 40)) (Int32.toNatClampNeg (1 : Int32)) x2) 108 40)) (Int32.toNatClampNeg (2 : Int32)) x3) 108 40)) (Int32.toNatClampNeg (3 : Int32)) x4) 108 40 ((wt_gf (wt_sa (wt_sa (wt_sa (wt_sa q7.2 (264 + Int32.toNatClampNeg (wt_gf q7.2 108 40)) (Int32.toNatClampNeg (0 : Int32)) x1) (264 + Int32.toNatClampNeg (wt_gf (wt_sa q7.2 (264 + Int32.toNatClampNeg (wt_gf q7.2 108 40)) (Int32.toNatClampNeg (0 : Int32)) x1) 108 40)) (Int32.toNatClampNeg (1 : Int32)) x2) (264 + Int32.toNatClampNeg (wt_gf (wt_sa (wt_sa q7.2 (264 + Int32.toNatClampNeg (wt_gf q7.2 108 40)) (Int32.toNatClampNeg (0 : Int32)) x1) (264 + Int32.toNatClampNeg (wt_gf (wt_sa q7.2 (264 + Int32.toNatClampNeg (wt_gf q7.2 108 40)) (Int32.toNatClampNeg (0 : Int32)) x1) 108 40)) (Int32.toNatClampNeg (1 : Int32)) x2) 108 40)) (Int32.toNatClampNeg (2 : Int32)) x3) (264 + Int32.toNatClampNeg (wt_gf (wt_sa (wt_sa (wt_sa q7.2 (264 + Int32.toNatClampNeg (wt_gf q7.2 108 40)) (Int32.toNatClampNeg (0 : Int32)) x1) (264 + Int32.toNatClampNeg (wt_gf (wt_sa q7.2 (264 + Int32.toNatClampNeg (wt_gf q7.2 108 40)) (Int32.toNatClampNeg (0 : Int32)) x1) 108 40)) (Int32.toNatClampNeg (1 : Int32)) x2) (264 + Int32.toNatClampNeg (wt_gf (wt_sa (wt_sa q7.2 (264 + Int32.toNatClampNeg (wt_gf q7.2 108 40)) (Int32.toNatClampNeg (0 : Int32)) x1) (264 + Int32.toNatClampNeg (wt_gf (wt_sa q7.2 (264 + Int32.toNatClampNeg (wt_gf q7.2 108 40)) (Int32.toNatClampNeg (0 : Int32)) x1) 108 40)) (Int32.toNatClampNeg (1 : Int32)) x2) 108 40)) (Int32.toNatClampNeg (2 : Int32)) x3) 108 40)) (Int32.toNatClampNeg (3 : Int32)) x4) 108 40) + (1 : Int32))) 108 40), (wt_sf (wt_sa (wt_sa (wt_sa (wt_sa q7.2 (264 + Int32.toNatClampNeg (wt_gf q7.2 108 40)) (Int32.toNatClampNeg (0 : Int32)) x1) (264 + Int32.toNatClampNeg (wt_gf (wt_sa q7.2 (264 + Int32.toNatClampNeg (wt_gf q7.2 108 40)) (Int32.toNatClampNeg (0 : Int32)) x1) 108 40)) (Int32.toNatClampNeg (1 : Int32)) x2) (264 + Int32.toNatClampNeg (wt_gf (wt_sa (wt_sa q7.2 (264 + Int32.toNatClampNeg (wt_gf q7.2 108 40)) (Int32.toNatClampNeg (0 : Int32)) x1) (264 + Int32.toNatClampNeg (wt_gf (wt_sa q7.2 (264 + Int32.toNatClampNeg (wt_gf q7.2 108 40)) (Int32.toNatClampNeg (0 : Int32)) x1) 108 40)) (Int32.toNatClampNeg (1 : Int32)) x2) 108 40)) (Int32.toNatClampNeg (2 : Int32)) x3) (264 + Int32.toNatClampNeg (wt_gf (wt_sa (wt_sa (wt_sa q7.2 (264 + Int32.toNatClampNeg (wt_gf q7.2 108 40)) (Int32.toNatClampNeg (0 : Int32)) x1) (264 + Int32.toNatClampNeg (wt_gf (wt_sa q7.2 (264 + Int32.toNatClampNeg (wt_gf q7.2 108 40)) (Int32.toNatClampNeg (0 : Int32)) x1) 108 40)) (Int32.toNatClampNeg (1 : Int32)) x2) (264 + Int32.toNatClampNeg (wt_gf (wt_sa (wt_sa q7.2 (264 + Int32.toNatClampNeg (wt_gf q7.2 108 40)) (Int32.toNatClampNeg (0 : Int32)) x1) (264 + Int32.toNatClampNeg (wt_gf (wt_sa q7.2 (264 + Int32.toNatClampNeg (wt_gf q7.2 108 40)) (Int32.toNatClampNeg (0 : Int32)) x1) 108 40)) (Int32.toNatClampNeg (1 : Int32)) x2) 108 40)) (Int32.toNatClampNeg (2 : Int32)) x3) 108 40)) (Int32.toNatClampNeg (3 : Int32)) x4) 108 40 ((wt_gf (wt_sa (wt_sa (wt_sa (wt_sa q7.2 (264 + Int32.toNatClampNeg (wt_gf q7.2 108 40)) (Int32.toNatClampNeg (0 : Int32)) x1) (264 + Int32.toNatClampNeg (wt_gf (wt_sa q7.2 (264 + Int32.toNatClampNeg (wt_gf q7.2 108 40)) (Int32.toNatClampNeg (0 : Int32)) x1) 108 40)) (Int32.toNatClampNeg (1 : Int32)) x2) (264 + Int32.toNatClampNeg (wt_gf (wt_sa (wt_sa q7.2 (264 + Int32.toNatClampNeg (wt_gf q7.2 108 40)) (Int32.toNatClampNeg (0 : Int32)) x1) (264 + Int32.toNatClampNeg (wt_gf (wt_sa q7.2 (264 + Int32.toNatClampNeg (wt_gf q7.2 108 40)) (Int32.toNatClampNeg (0 : Int32)) x1) 108 40)) (Int32.toNatClampNeg (1 : Int32)) x2) 108 40)) (Int32.toNatClampNeg (2 : Int32)) x3) (264 + Int32.toNatClampNeg (wt_gf (wt_sa (wt_sa (wt_sa q7.2 (264 + Int32.toNatClampNeg (wt_gf q7.2 108 40)) (Int32.toNatClampNeg (0 : Int32)) x1) (264 + Int32.toNatClampNeg (wt_gf (wt_sa q7.2 (264 + Int32.toNatClampNeg (wt_gf q7.2 108 40)) (Int32.toNatClampNeg (0 : Int32)) x1) 108 40)) (Int32.toNatClampNeg (1 : Int32)) x2) (264 + Int32.toNatClampNeg (wt_gf (wt_sa (wt_sa q7.2 (264 + Int32.toNatClampNeg (wt_gf q7.2 108 40)) (Int32.toNatClampNeg (0 : Int32)) x1) (264 + Int32.toNatClampNeg (wt_gf (wt_sa q7.2 (264 + Int32.toNatClampNeg (wt_gf q7.2 108 40)) (Int32.toNatClampNeg (0 : Int32)) x1) 108 40)) (Int32.toNatClampNeg (1 : Int32)) x2) 108 40)) (Int32.toNatClampNeg (2 : Int32)) x3) 108 40)) (Int32.toNatClampNeg (3 : Int32)) x4) 108 40) + (1 : Int32))))
  else
    some ((0 : Int32), q7.2)
set_option maxRecDepth 100000 in
set_option maxHeartbeats 4000000 in
theorem wp_md_want_B61_ok  {x1 : Int32} {x2 : Int32} {x3 : Int32} {x4 : Int32} {X : wt_X} {n : Nat} {res : Int32 × wt_St} (hE : wt_Ok X prog_13_method_71_code 5 "WornTypeModel" 2 0) (hR : wt_Rt X (some .int) (some res.1) res.2) (hD : ∀ i, 108 ≤ i → i < 321 → wt_dom (wt_xw X) i)  {σ : wt_St} {y1 : Int32} (h : wp_md_want_B61 n x1 x2 x3 x4 y1 σ = some res) : wt_V X 0 σ 61 [some (.ref (wt_ad (wt_xw X) 108)), some (.int x1), some (.int x2), some (.int x3), some (.int x4)] [.int y1, .ref (wt_ad (wt_xw X) 108)] := by
  unfold wp_md_want_B61 at h
  refine wt_iconst hE (2 : Int32) wp_md_want_d61 (by decide) ?_
  obtain ⟨q7, hq7, h⟩ := wt_bi h
  refine wt_callVi hE [.int y1, .int (2 : Int32)] wt_lm_md_230 wt_ya_md_bad (wp_md_bad_ok hD hq7) (by omega) (hD 108 (by decide) (by decide)) wt_L108 rfl rfl rfl (Nat.le_of_ble_eq_true rfl) (Nat.zero_le _) wp_md_want_d62 (fun hbq7 => ?_)
  refine wt_if_eq hE 70 wp_md_want_d65 rfl (fun c8 => ?_) (fun c8 => ?_)
  · have h := wt_ip c8 h
    refine wt_aload_n hE wp_md_want_d70 rfl ?_
    refine wt_geti hE wt_lf_md_268 (hD 108 (by decide) (by decide)) wt_L108 rfl wp_md_want_d71 ?_
    refine wt_bipush hE (10 : Int32) wp_md_want_d74 (by decide) ?_
    refine wt_icmp_ne hE 81 wp_md_want_d76 rfl (fun c9 => ?_) (fun c9 => ?_)
    · have h := wt_in c9 h
      refine wt_aload_n hE wp_md_want_d81 rfl ?_
      refine wt_getr hE (r := 263) wt_lf_md_94 (hD 108 (by decide) (by decide)) wt_L108 rfl wp_md_want_d82 ?_
      refine wt_aload_n hE wp_md_want_d85 rfl ?_
      refine wt_geti hE wt_lf_md_268 (hD 108 (by decide) (by decide)) wt_L108 rfl wp_md_want_d86 ?_
      obtain ⟨g10, h⟩ := wt_gd h
      have lg10 := wt_lt g10
      refine wt_aald1 hE (hD 263 (by decide) (by decide)) wt_L263 g10 wp_md_want_d89 ?_
      refine wt_iconst hE (0 : Int32) wp_md_want_d90 (by decide) ?_
      refine wt_iload_n hE wp_md_want_d91 rfl ?_
      obtain ⟨g11, h⟩ := wt_gd h
      refine wt_iast hE (hD _ (by omega) (by omega)) (wt_G264 _ lg10) g11 wp_md_want_d92 ?_
      refine wt_aload_n hE wp_md_want_d93 rfl ?_
      refine wt_getr hE (r := 263) wt_lf_md_94 (hD 108 (by decide) (by decide)) wt_L108 rfl wp_md_want_d94 ?_
      refine wt_aload_n hE wp_md_want_d97 rfl ?_
      refine wt_geti hE wt_lf_md_268 (hD 108 (by decide) (by decide)) wt_L108 rfl wp_md_want_d98 ?_
      obtain ⟨g12, h⟩ := wt_gd h
      have lg12 := wt_lt g12
      refine wt_aald1 hE (hD 263 (by decide) (by decide)) wt_L263 g12 wp_md_want_d101 ?_
      refine wt_iconst hE (1 : Int32) wp_md_want_d102 (by decide) ?_
      refine wt_iload_n hE wp_md_want_d103 rfl ?_
      obtain ⟨g13, h⟩ := wt_gd h
      refine wt_iast hE (hD _ (by omega) (by omega)) (wt_G264 _ lg12) g13 wp_md_want_d104 ?_
      refine wt_aload_n hE wp_md_want_d105 rfl ?_
      refine wt_getr hE (r := 263) wt_lf_md_94 (hD 108 (by decide) (by decide)) wt_L108 rfl wp_md_want_d106 ?_
      refine wt_aload_n hE wp_md_want_d109 rfl ?_
      refine wt_geti hE wt_lf_md_268 (hD 108 (by decide) (by decide)) wt_L108 rfl wp_md_want_d110 ?_
      obtain ⟨g14, h⟩ := wt_gd h
      have lg14 := wt_lt g14
      refine wt_aald1 hE (hD 263 (by decide) (by decide)) wt_L263 g14 wp_md_want_d113 ?_
      refine wt_iconst hE (2 : Int32) wp_md_want_d114 (by decide) ?_
      refine wt_iload_n hE wp_md_want_d115 rfl ?_
      obtain ⟨g15, h⟩ := wt_gd h
      refine wt_iast hE (hD _ (by omega) (by omega)) (wt_G264 _ lg14) g15 wp_md_want_d116 ?_
      refine wt_aload_n hE wp_md_want_d117 rfl ?_
      refine wt_getr hE (r := 263) wt_lf_md_94 (hD 108 (by decide) (by decide)) wt_L108 rfl wp_md_want_d118 ?_
      refine wt_aload_n hE wp_md_want_d121 rfl ?_
      refine wt_geti hE wt_lf_md_268 (hD 108 (by decide) (by decide)) wt_L108 rfl wp_md_want_d122 ?_
      obtain ⟨g16, h⟩ := wt_gd h
      have lg16 := wt_lt g16
      refine wt_aald1 hE (hD 263 (by decide) (by decide)) wt_L263 g16 wp_md_want_d125 ?_
      refine wt_iconst hE (3 : Int32) wp_md_want_d126 (by decide) ?_
      refine wt_iload hE wp_md_want_d127 rfl ?_
      obtain ⟨g17, h⟩ := wt_gd h
      refine wt_iast hE (hD _ (by omega) (by omega)) (wt_G264 _ lg16) g17 wp_md_want_d129 ?_
      refine wt_aload_n hE wp_md_want_d130 rfl ?_
      refine wt_dup hE wp_md_want_d131 rfl ?_
      refine wt_geti hE wt_lf_md_268 (hD 108 (by decide) (by decide)) wt_L108 rfl wp_md_want_d132 ?_
      refine wt_iconst hE (1 : Int32) wp_md_want_d135 (by decide) ?_
      refine wt_iadd hE wp_md_want_d136 ?_
      refine wt_puti hE wt_lf_md_268 (hD 108 (by decide) (by decide)) wt_L108 rfl (fun q hq => by cases hq; rfl) wp_md_want_d137 ?_
      refine wt_aload_n hE wp_md_want_d140 rfl ?_
      refine wt_geti hE wt_lf_md_268 (hD 108 (by decide) (by decide)) wt_L108 rfl wp_md_want_d141 ?_
      cases h
      exact wt_iret hE hR wp_md_want_d144
    · have h := wt_ip c9 h
      refine wt_iconst hE (-1 : Int32) wp_md_want_d79 (by decide) ?_
      cases h
      exact wt_iret hE hR wp_md_want_d80
  · have h := wt_in c8 h
    refine wt_iconst hE (0 : Int32) wp_md_want_d68 (by decide) ?_
    cases h
    exact wt_iret hE hR wp_md_want_d69
noncomputable def wp_md_want_B56 (n : Nat) (x1 : Int32) (x2 : Int32) (x3 : Int32) (x4 : Int32) (σ : wt_St) : Option (Int32 × wt_St) :=
  wp_md_want_B61 n x1 x2 x3 x4 (1 : Int32) σ
set_option maxRecDepth 100000 in
set_option maxHeartbeats 4000000 in
theorem wp_md_want_B56_ok  {x1 : Int32} {x2 : Int32} {x3 : Int32} {x4 : Int32} {X : wt_X} {n : Nat} {res : Int32 × wt_St} (hE : wt_Ok X prog_13_method_71_code 5 "WornTypeModel" 2 0) (hR : wt_Rt X (some .int) (some res.1) res.2) (hD : ∀ i, 108 ≤ i → i < 321 → wt_dom (wt_xw X) i)  {σ : wt_St} (h : wp_md_want_B56 n x1 x2 x3 x4 σ = some res) : wt_V X 0 σ 56 [some (.ref (wt_ad (wt_xw X) 108)), some (.int x1), some (.int x2), some (.int x3), some (.int x4)] [.ref (wt_ad (wt_xw X) 108)] := by
  unfold wp_md_want_B56 at h
  refine wt_iconst hE (1 : Int32) wp_md_want_d56 (by decide) ?_
  refine wt_goto hE 61 wp_md_want_d57 rfl ?_
  exact wp_md_want_B61_ok hE hR hD h
noncomputable def wp_md_want_B19 (n : Nat) (x1 : Int32) (x2 : Int32) (x3 : Int32) (x4 : Int32) (y1 : Int32) (σ : wt_St) : Option (Int32 × wt_St) :=
  (wp_md_bad n y1 (1 : Int32) σ).bind fun q3 =>
  if q3.1 = 0 then
    (wp_md_isCopies n x2 q3.2).bind fun q5 =>
    if q5.1 = 0 then
      wp_md_want_B56 n x1 x2 x3 x4 q5.2
    else
      (wp_md_in n x3 (0 : Int32) (99 : Int32) q5.2).bind fun q18 =>
      if q18.1 = 0 then
        wp_md_want_B56 n x1 x2 x3 x4 q18.2
      else
        (wp_md_in n x4 (1 : Int32) (999 : Int32) q18.2).bind fun q20 =>
        if q20.1 = 0 then
          wp_md_want_B56 n x1 x2 x3 x4 q20.2
        else
          wp_md_want_B61 n x1 x2 x3 x4 (0 : Int32) q20.2
  else
    some ((0 : Int32), q3.2)
set_option maxRecDepth 100000 in
set_option maxHeartbeats 4000000 in
theorem wp_md_want_B19_ok  {x1 : Int32} {x2 : Int32} {x3 : Int32} {x4 : Int32} {X : wt_X} {n : Nat} {res : Int32 × wt_St} (hE : wt_Ok X prog_13_method_71_code 5 "WornTypeModel" 2 0) (hR : wt_Rt X (some .int) (some res.1) res.2) (hD : ∀ i, 108 ≤ i → i < 321 → wt_dom (wt_xw X) i)  {σ : wt_St} {y1 : Int32} (h : wp_md_want_B19 n x1 x2 x3 x4 y1 σ = some res) : wt_V X 0 σ 19 [some (.ref (wt_ad (wt_xw X) 108)), some (.int x1), some (.int x2), some (.int x3), some (.int x4)] [.int y1, .ref (wt_ad (wt_xw X) 108)] := by
  unfold wp_md_want_B19 at h
  refine wt_iconst hE (1 : Int32) wp_md_want_d19 (by decide) ?_
  obtain ⟨q3, hq3, h⟩ := wt_bi h
  refine wt_callVi hE [.int y1, .int (1 : Int32)] wt_lm_md_230 wt_ya_md_bad (wp_md_bad_ok hD hq3) (by omega) (hD 108 (by decide) (by decide)) wt_L108 rfl rfl rfl (Nat.le_of_ble_eq_true rfl) (Nat.zero_le _) wp_md_want_d20 (fun hbq3 => ?_)
  refine wt_if_ne hE 68 wp_md_want_d23 rfl (fun c4 => ?_) (fun c4 => ?_)
  · have h := wt_in c4 h
    refine wt_iconst hE (0 : Int32) wp_md_want_d68 (by decide) ?_
    cases h
    exact wt_iret hE hR wp_md_want_d69
  · have h := wt_ip c4 h
    refine wt_aload_n hE wp_md_want_d26 rfl ?_
    refine wt_iload_n hE wp_md_want_d27 rfl ?_
    obtain ⟨q5, hq5, h⟩ := wt_bi h
    refine wt_callSi hE [.int x2] wt_lm_md_313 wt_ya_md_isCopies (wp_md_isCopies_ok hq5) (by omega) rfl rfl (Nat.le_of_ble_eq_true rfl) (Nat.zero_le _) wp_md_want_d28 (fun hbq5 => ?_)
    refine wt_if_eq hE 56 wp_md_want_d31 rfl (fun c6 => ?_) (fun c6 => ?_)
    · have h := wt_ip c6 h
      exact wp_md_want_B56_ok hE hR hD h
    · have h := wt_in c6 h
      refine wt_iload_n hE wp_md_want_d34 rfl ?_
      refine wt_iconst hE (0 : Int32) wp_md_want_d35 (by decide) ?_
      refine wt_bipush hE (99 : Int32) wp_md_want_d36 (by decide) ?_
      obtain ⟨q18, hq18, h⟩ := wt_bi h
      refine wt_callSi hE [.int x3, .int (0 : Int32), .int (99 : Int32)] wt_lm_md_185 wt_ya_md_in (wp_md_in_ok hq18) (by omega) rfl rfl (Nat.le_of_ble_eq_true rfl) (Nat.zero_le _) wp_md_want_d38 (fun hbq18 => ?_)
      refine wt_if_eq hE 56 wp_md_want_d41 rfl (fun c19 => ?_) (fun c19 => ?_)
      · have h := wt_ip c19 h
        exact wp_md_want_B56_ok hE hR hD h
      · have h := wt_in c19 h
        refine wt_iload hE wp_md_want_d44 rfl ?_
        refine wt_iconst hE (1 : Int32) wp_md_want_d46 (by decide) ?_
        refine wt_sipush hE (999 : Int32) wp_md_want_d47 (by decide) ?_
        obtain ⟨q20, hq20, h⟩ := wt_bi h
        refine wt_callSi hE [.int x4, .int (1 : Int32), .int (999 : Int32)] wt_lm_md_185 wt_ya_md_in (wp_md_in_ok hq20) (by omega) rfl rfl (Nat.le_of_ble_eq_true rfl) (Nat.zero_le _) wp_md_want_d50 (fun hbq20 => ?_)
        refine wt_if_ne hE 60 wp_md_want_d53 rfl (fun c21 => ?_) (fun c21 => ?_)
        · have h := wt_in c21 h
          refine wt_iconst hE (0 : Int32) wp_md_want_d60 (by decide) ?_
          exact wp_md_want_B61_ok hE hR hD h
        · have h := wt_ip c21 h
          exact wp_md_want_B56_ok hE hR hD h
noncomputable def wp_md_want (n : Nat) (x1 : Int32) (x2 : Int32) (x3 : Int32) (x4 : Int32) (σ : wt_St) : Option (Int32 × wt_St) :=
  (wp_md_isText n x1 (wt_sf σ 108 0 (0 : Int32))).bind fun q1 =>
  if q1.1 = 0 then
    wp_md_want_B19 n x1 x2 x3 x4 (1 : Int32) q1.2
  else
    wp_md_want_B19 n x1 x2 x3 x4 (0 : Int32) q1.2
set_option maxRecDepth 100000 in
set_option maxHeartbeats 4000000 in
theorem wp_md_want_ok {l : Launch} {w : wt_E} {n : Nat} {x1 : Int32} {x2 : Int32} {x3 : Int32} {x4 : Int32} (hD : ∀ i, 108 ≤ i → i < 321 → wt_dom w i) {σ : wt_St} {q : Int32 × wt_St} (h : wp_md_want n x1 x2 x3 x4 σ = some q) : wt_Ctr l w wt_y_md_want prog_13_method_71_code 5 (some .int) 2 [.ref (wt_ad w 108), .int x1, .int x2, .int x3, .int x4] σ (some q.1) q.2 := by
  refine wt_ctr wt_pl_md_want rfl (Nat.le_of_ble_eq_true rfl) [some (.ref (wt_ad w 108)), some (.int x1), some (.int x2), some (.int x3), some (.int x4)] rfl ?_
  intro X hXl hXw hE hR
  subst hXl
  subst hXw
  have hE : wt_Ok X prog_13_method_71_code 5 "WornTypeModel" 2 0 := hE
  unfold wp_md_want at h
  refine wt_aload_n hE wp_md_want_d0 rfl ?_
  refine wt_iconst hE (0 : Int32) wp_md_want_d1 (by decide) ?_
  refine wt_puti hE wt_lf_md_151 (hD 108 (by decide) (by decide)) wt_L108 rfl (fun q hq => by cases hq; rfl) wp_md_want_d2 ?_
  refine wt_aload_n hE wp_md_want_d5 rfl ?_
  refine wt_aload_n hE wp_md_want_d6 rfl ?_
  refine wt_iload_n hE wp_md_want_d7 rfl ?_
  obtain ⟨q1, hq1, h⟩ := wt_bi h
  refine wt_callVi hE [.int x1] wt_lm_md_307 wt_ya_md_isText (wp_md_isText_ok hD hq1) (by omega) (hD 108 (by decide) (by decide)) wt_L108 rfl rfl rfl (Nat.le_of_ble_eq_true rfl) (Nat.zero_le _) wp_md_want_d8 (fun hbq1 => ?_)
  refine wt_if_ne hE 18 wp_md_want_d11 rfl (fun c2 => ?_) (fun c2 => ?_)
  · have h := wt_in c2 h
    refine wt_iconst hE (0 : Int32) wp_md_want_d18 (by decide) ?_
    exact wp_md_want_B19_ok hE hR hD h
  · have h := wt_ip c2 h
    refine wt_iconst hE (1 : Int32) wp_md_want_d14 (by decide) ?_
    refine wt_goto hE 19 wp_md_want_d15 rfl ?_
    exact wp_md_want_B19_ok hE hR hD h
def wb20m10_prog_13_method_44_code_r3 : List (List Nat) := [27, 46, 167, 0, 21, 28, 6, 160, 0, 11, 42, 27, 182, 1, 45, 167, 0, 8, 42, 27, 182, 1, 48, 172] :: []
def wb20m10_prog_13_method_44_code_r2 : List (List Nat) := [27, 46, 167, 0, 49, 28, 4, 160, 0, 12, 42, 180, 0, 71, 27, 46, 167, 0, 35, 28, 5, 160, 0, 12, 42, 180, 0, 77] :: wb20m10_prog_13_method_44_code_r3
def wb20m10_prog_13_method_44_code_r1 : List (List Nat) := [3, 7, 184, 0, 185, 154, 0, 7, 4, 167, 0, 4, 3, 5, 182, 0, 230, 153, 0, 5, 3, 172, 28, 154, 0, 12, 42, 180, 0, 65] :: wb20m10_prog_13_method_44_code_r2
def wb20m10_prog_13_method_44_code_r0 : List (List Nat) := [42, 3, 181, 0, 151, 42, 42, 27, 182, 1, 42, 154, 0, 7, 4, 167, 0, 4, 3, 4, 182, 0, 230, 154, 0, 25, 42, 28] :: wb20m10_prog_13_method_44_code_r1
set_option maxRecDepth 100000 in
theorem wb20m10_prog_13_method_44_code_c0 : wt_cs prog_13_method_44_code 0 wb20m10_prog_13_method_44_code_r0 := wt_cs_of (by decide +kernel)
theorem wb20m10_prog_13_method_44_code_c1 : wt_cs prog_13_method_44_code 28 wb20m10_prog_13_method_44_code_r1 := wt_cs_tl (m := 28) wb20m10_prog_13_method_44_code_c0 rfl rfl
theorem wb20m10_prog_13_method_44_code_c2 : wt_cs prog_13_method_44_code 58 wb20m10_prog_13_method_44_code_r2 := wt_cs_tl (m := 30) wb20m10_prog_13_method_44_code_c1 rfl rfl
theorem wb20m10_prog_13_method_44_code_c3 : wt_cs prog_13_method_44_code 86 wb20m10_prog_13_method_44_code_r3 := wt_cs_tl (m := 28) wb20m10_prog_13_method_44_code_c2 rfl rfl
theorem wp_md_word_d0 : decode prog_13_method_44_code 0 = .ok (.aload_n 0, 1) := wt_op42 wb20m10_prog_13_method_44_code_c0 0 rfl rfl
theorem wp_md_word_d1 : decode prog_13_method_44_code 1 = .ok (.iconst 0, 1) := wt_op3 wb20m10_prog_13_method_44_code_c0 1 rfl rfl
theorem wp_md_word_d2 : decode prog_13_method_44_code 2 = .ok (.putfield 151, 3) := wt_op181 wb20m10_prog_13_method_44_code_c0 2 rfl rfl rfl
theorem wp_md_word_d5 : decode prog_13_method_44_code 5 = .ok (.aload_n 0, 1) := wt_op42 wb20m10_prog_13_method_44_code_c0 5 rfl rfl
theorem wp_md_word_d6 : decode prog_13_method_44_code 6 = .ok (.aload_n 0, 1) := wt_op42 wb20m10_prog_13_method_44_code_c0 6 rfl rfl
theorem wp_md_word_d7 : decode prog_13_method_44_code 7 = .ok (.iload_n 1, 1) := wt_op27 wb20m10_prog_13_method_44_code_c0 7 rfl rfl
theorem wp_md_word_d8 : decode prog_13_method_44_code 8 = .ok (.invokevirtual 298, 3) := wt_op182 wb20m10_prog_13_method_44_code_c0 8 rfl rfl rfl
theorem wp_md_word_d11 : decode prog_13_method_44_code 11 = .ok (.ifCond .ne 7, 3) := wt_op154 wb20m10_prog_13_method_44_code_c0 11 rfl rfl rfl
theorem wp_md_word_d14 : decode prog_13_method_44_code 14 = .ok (.iconst 1, 1) := wt_op4 wb20m10_prog_13_method_44_code_c0 14 rfl rfl
theorem wp_md_word_d15 : decode prog_13_method_44_code 15 = .ok (.goto 4, 3) := wt_op167 wb20m10_prog_13_method_44_code_c0 15 rfl rfl rfl
theorem wp_md_word_d18 : decode prog_13_method_44_code 18 = .ok (.iconst 0, 1) := wt_op3 wb20m10_prog_13_method_44_code_c0 18 rfl rfl
theorem wp_md_word_d19 : decode prog_13_method_44_code 19 = .ok (.iconst 1, 1) := wt_op4 wb20m10_prog_13_method_44_code_c0 19 rfl rfl
theorem wp_md_word_d20 : decode prog_13_method_44_code 20 = .ok (.invokevirtual 230, 3) := wt_op182 wb20m10_prog_13_method_44_code_c0 20 rfl rfl rfl
theorem wp_md_word_d23 : decode prog_13_method_44_code 23 = .ok (.ifCond .ne 25, 3) := wt_op154 wb20m10_prog_13_method_44_code_c0 23 rfl rfl rfl
theorem wp_md_word_d26 : decode prog_13_method_44_code 26 = .ok (.aload_n 0, 1) := wt_op42 wb20m10_prog_13_method_44_code_c0 26 rfl rfl
theorem wp_md_word_d27 : decode prog_13_method_44_code 27 = .ok (.iload_n 2, 1) := wt_op28 wb20m10_prog_13_method_44_code_c0 27 rfl rfl
theorem wp_md_word_d28 : decode prog_13_method_44_code 28 = .ok (.iconst 0, 1) := wt_op3 wb20m10_prog_13_method_44_code_c1 0 rfl rfl
theorem wp_md_word_d29 : decode prog_13_method_44_code 29 = .ok (.iconst 4, 1) := wt_op7 wb20m10_prog_13_method_44_code_c1 1 rfl rfl
theorem wp_md_word_d30 : decode prog_13_method_44_code 30 = .ok (.invokestatic 185, 3) := wt_op184 wb20m10_prog_13_method_44_code_c1 2 rfl rfl rfl
theorem wp_md_word_d33 : decode prog_13_method_44_code 33 = .ok (.ifCond .ne 7, 3) := wt_op154 wb20m10_prog_13_method_44_code_c1 5 rfl rfl rfl
theorem wp_md_word_d36 : decode prog_13_method_44_code 36 = .ok (.iconst 1, 1) := wt_op4 wb20m10_prog_13_method_44_code_c1 8 rfl rfl
theorem wp_md_word_d37 : decode prog_13_method_44_code 37 = .ok (.goto 4, 3) := wt_op167 wb20m10_prog_13_method_44_code_c1 9 rfl rfl rfl
theorem wp_md_word_d40 : decode prog_13_method_44_code 40 = .ok (.iconst 0, 1) := wt_op3 wb20m10_prog_13_method_44_code_c1 12 rfl rfl
theorem wp_md_word_d41 : decode prog_13_method_44_code 41 = .ok (.iconst 2, 1) := wt_op5 wb20m10_prog_13_method_44_code_c1 13 rfl rfl
theorem wp_md_word_d42 : decode prog_13_method_44_code 42 = .ok (.invokevirtual 230, 3) := wt_op182 wb20m10_prog_13_method_44_code_c1 14 rfl rfl rfl
theorem wp_md_word_d45 : decode prog_13_method_44_code 45 = .ok (.ifCond .eq 5, 3) := wt_op153 wb20m10_prog_13_method_44_code_c1 17 rfl rfl rfl
theorem wp_md_word_d48 : decode prog_13_method_44_code 48 = .ok (.iconst 0, 1) := wt_op3 wb20m10_prog_13_method_44_code_c1 20 rfl rfl
theorem wp_md_word_d49 : decode prog_13_method_44_code 49 = .ok (.ireturn, 1) := wt_op172 wb20m10_prog_13_method_44_code_c1 21 rfl rfl
theorem wp_md_word_d50 : decode prog_13_method_44_code 50 = .ok (.iload_n 2, 1) := wt_op28 wb20m10_prog_13_method_44_code_c1 22 rfl rfl
theorem wp_md_word_d51 : decode prog_13_method_44_code 51 = .ok (.ifCond .ne 12, 3) := wt_op154 wb20m10_prog_13_method_44_code_c1 23 rfl rfl rfl
theorem wp_md_word_d54 : decode prog_13_method_44_code 54 = .ok (.aload_n 0, 1) := wt_op42 wb20m10_prog_13_method_44_code_c1 26 rfl rfl
theorem wp_md_word_d55 : decode prog_13_method_44_code 55 = .ok (.getfield 65, 3) := wt_op180 wb20m10_prog_13_method_44_code_c1 27 rfl rfl rfl
theorem wp_md_word_d58 : decode prog_13_method_44_code 58 = .ok (.iload_n 1, 1) := wt_op27 wb20m10_prog_13_method_44_code_c2 0 rfl rfl
theorem wp_md_word_d59 : decode prog_13_method_44_code 59 = .ok (.iaload, 1) := wt_op46 wb20m10_prog_13_method_44_code_c2 1 rfl rfl
theorem wp_md_word_d60 : decode prog_13_method_44_code 60 = .ok (.goto 49, 3) := wt_op167 wb20m10_prog_13_method_44_code_c2 2 rfl rfl rfl
theorem wp_md_word_d63 : decode prog_13_method_44_code 63 = .ok (.iload_n 2, 1) := wt_op28 wb20m10_prog_13_method_44_code_c2 5 rfl rfl
theorem wp_md_word_d64 : decode prog_13_method_44_code 64 = .ok (.iconst 1, 1) := wt_op4 wb20m10_prog_13_method_44_code_c2 6 rfl rfl
theorem wp_md_word_d65 : decode prog_13_method_44_code 65 = .ok (.if_icmp .ne 12, 3) := wt_op160 wb20m10_prog_13_method_44_code_c2 7 rfl rfl rfl
theorem wp_md_word_d68 : decode prog_13_method_44_code 68 = .ok (.aload_n 0, 1) := wt_op42 wb20m10_prog_13_method_44_code_c2 10 rfl rfl
theorem wp_md_word_d69 : decode prog_13_method_44_code 69 = .ok (.getfield 71, 3) := wt_op180 wb20m10_prog_13_method_44_code_c2 11 rfl rfl rfl
theorem wp_md_word_d72 : decode prog_13_method_44_code 72 = .ok (.iload_n 1, 1) := wt_op27 wb20m10_prog_13_method_44_code_c2 14 rfl rfl
theorem wp_md_word_d73 : decode prog_13_method_44_code 73 = .ok (.iaload, 1) := wt_op46 wb20m10_prog_13_method_44_code_c2 15 rfl rfl
theorem wp_md_word_d74 : decode prog_13_method_44_code 74 = .ok (.goto 35, 3) := wt_op167 wb20m10_prog_13_method_44_code_c2 16 rfl rfl rfl
theorem wp_md_word_d77 : decode prog_13_method_44_code 77 = .ok (.iload_n 2, 1) := wt_op28 wb20m10_prog_13_method_44_code_c2 19 rfl rfl
theorem wp_md_word_d78 : decode prog_13_method_44_code 78 = .ok (.iconst 2, 1) := wt_op5 wb20m10_prog_13_method_44_code_c2 20 rfl rfl
theorem wp_md_word_d79 : decode prog_13_method_44_code 79 = .ok (.if_icmp .ne 12, 3) := wt_op160 wb20m10_prog_13_method_44_code_c2 21 rfl rfl rfl
theorem wp_md_word_d82 : decode prog_13_method_44_code 82 = .ok (.aload_n 0, 1) := wt_op42 wb20m10_prog_13_method_44_code_c2 24 rfl rfl
theorem wp_md_word_d83 : decode prog_13_method_44_code 83 = .ok (.getfield 77, 3) := wt_op180 wb20m10_prog_13_method_44_code_c2 25 rfl rfl rfl
theorem wp_md_word_d86 : decode prog_13_method_44_code 86 = .ok (.iload_n 1, 1) := wt_op27 wb20m10_prog_13_method_44_code_c3 0 rfl rfl
theorem wp_md_word_d87 : decode prog_13_method_44_code 87 = .ok (.iaload, 1) := wt_op46 wb20m10_prog_13_method_44_code_c3 1 rfl rfl
theorem wp_md_word_d88 : decode prog_13_method_44_code 88 = .ok (.goto 21, 3) := wt_op167 wb20m10_prog_13_method_44_code_c3 2 rfl rfl rfl
theorem wp_md_word_d91 : decode prog_13_method_44_code 91 = .ok (.iload_n 2, 1) := wt_op28 wb20m10_prog_13_method_44_code_c3 5 rfl rfl
theorem wp_md_word_d92 : decode prog_13_method_44_code 92 = .ok (.iconst 3, 1) := wt_op6 wb20m10_prog_13_method_44_code_c3 6 rfl rfl
theorem wp_md_word_d93 : decode prog_13_method_44_code 93 = .ok (.if_icmp .ne 11, 3) := wt_op160 wb20m10_prog_13_method_44_code_c3 7 rfl rfl rfl
theorem wp_md_word_d96 : decode prog_13_method_44_code 96 = .ok (.aload_n 0, 1) := wt_op42 wb20m10_prog_13_method_44_code_c3 10 rfl rfl
theorem wp_md_word_d97 : decode prog_13_method_44_code 97 = .ok (.iload_n 1, 1) := wt_op27 wb20m10_prog_13_method_44_code_c3 11 rfl rfl
theorem wp_md_word_d98 : decode prog_13_method_44_code 98 = .ok (.invokevirtual 301, 3) := wt_op182 wb20m10_prog_13_method_44_code_c3 12 rfl rfl rfl
theorem wp_md_word_d101 : decode prog_13_method_44_code 101 = .ok (.goto 8, 3) := wt_op167 wb20m10_prog_13_method_44_code_c3 15 rfl rfl rfl
theorem wp_md_word_d104 : decode prog_13_method_44_code 104 = .ok (.aload_n 0, 1) := wt_op42 wb20m10_prog_13_method_44_code_c3 18 rfl rfl
theorem wp_md_word_d105 : decode prog_13_method_44_code 105 = .ok (.iload_n 1, 1) := wt_op27 wb20m10_prog_13_method_44_code_c3 19 rfl rfl
theorem wp_md_word_d106 : decode prog_13_method_44_code 106 = .ok (.invokevirtual 304, 3) := wt_op182 wb20m10_prog_13_method_44_code_c3 20 rfl rfl rfl
theorem wp_md_word_d109 : decode prog_13_method_44_code 109 = .ok (.ireturn, 1) := wt_op172 wb20m10_prog_13_method_44_code_c3 23 rfl rfl
noncomputable def wp_md_word_B41 (n : Nat) (x1 : Int32) (x2 : Int32) (y1 : Int32) (σ : wt_St) : Option (Int32 × wt_St) :=
  (wp_md_bad n y1 (2 : Int32) σ).bind fun q7 =>
  if q7.1 = 0 then
    if x2 = 0 then
      if x1 < 0 ∨ 60 ≤ Int32.toNatClampNeg x1 then none else
      some ((wt_ga q7.2 126 (Int32.toNatClampNeg x1)), q7.2)
    else
      if x2 = (1 : Int32) then
        if x1 < 0 ∨ 60 ≤ Int32.toNatClampNeg x1 then none else
        some ((wt_ga q7.2 128 (Int32.toNatClampNeg x1)), q7.2)
      else
        if x2 = (2 : Int32) then
          if x1 < 0 ∨ 61 ≤ Int32.toNatClampNeg x1 then none else
          some ((wt_ga q7.2 130 (Int32.toNatClampNeg x1)), q7.2)
        else
          if x2 = (3 : Int32) then
            (wp_md_priceOf n x1 q7.2).bind fun q14 =>
            some (q14.1, q14.2)
          else
            (wp_md_canWord n x1 q7.2).bind fun q13 =>
            some (q13.1, q13.2)
  else
    some ((0 : Int32), q7.2)
set_option maxRecDepth 100000 in
set_option maxHeartbeats 4000000 in
theorem wp_md_word_B41_ok  {x1 : Int32} {x2 : Int32} {X : wt_X} {n : Nat} {res : Int32 × wt_St} (hE : wt_Ok X prog_13_method_44_code 3 "WornTypeModel" 5 0) (hR : wt_Rt X (some .int) (some res.1) res.2) (hD : ∀ i, 108 ≤ i → i < 321 → wt_dom (wt_xw X) i)  {σ : wt_St} {y1 : Int32} (h : wp_md_word_B41 n x1 x2 y1 σ = some res) : wt_V X 0 σ 41 [some (.ref (wt_ad (wt_xw X) 108)), some (.int x1), some (.int x2)] [.int y1, .ref (wt_ad (wt_xw X) 108)] := by
  unfold wp_md_word_B41 at h
  refine wt_iconst hE (2 : Int32) wp_md_word_d41 (by decide) ?_
  obtain ⟨q7, hq7, h⟩ := wt_bi h
  refine wt_callVi hE [.int y1, .int (2 : Int32)] wt_lm_md_230 wt_ya_md_bad (wp_md_bad_ok hD hq7) (by omega) (hD 108 (by decide) (by decide)) wt_L108 rfl rfl rfl (Nat.le_of_ble_eq_true rfl) (Nat.zero_le _) wp_md_word_d42 (fun hbq7 => ?_)
  refine wt_if_eq hE 50 wp_md_word_d45 rfl (fun c8 => ?_) (fun c8 => ?_)
  · have h := wt_ip c8 h
    refine wt_iload_n hE wp_md_word_d50 rfl ?_
    refine wt_if_ne hE 63 wp_md_word_d51 rfl (fun c9 => ?_) (fun c9 => ?_)
    · have h := wt_in c9 h
      refine wt_iload_n hE wp_md_word_d63 rfl ?_
      refine wt_iconst hE (1 : Int32) wp_md_word_d64 (by decide) ?_
      refine wt_icmp_ne hE 77 wp_md_word_d65 rfl (fun c10 => ?_) (fun c10 => ?_)
      · have h := wt_in c10 h
        refine wt_iload_n hE wp_md_word_d77 rfl ?_
        refine wt_iconst hE (2 : Int32) wp_md_word_d78 (by decide) ?_
        refine wt_icmp_ne hE 91 wp_md_word_d79 rfl (fun c11 => ?_) (fun c11 => ?_)
        · have h := wt_in c11 h
          refine wt_iload_n hE wp_md_word_d91 rfl ?_
          refine wt_iconst hE (3 : Int32) wp_md_word_d92 (by decide) ?_
          refine wt_icmp_ne hE 104 wp_md_word_d93 rfl (fun c12 => ?_) (fun c12 => ?_)
          · have h := wt_in c12 h
            refine wt_aload_n hE wp_md_word_d104 rfl ?_
            refine wt_iload_n hE wp_md_word_d105 rfl ?_
            obtain ⟨q13, hq13, h⟩ := wt_bi h
            refine wt_callVi hE [.int x1] wt_lm_md_304 wt_ya_md_canWord (wp_md_canWord_ok hD hq13) (by omega) (hD 108 (by decide) (by decide)) wt_L108 rfl rfl rfl (Nat.le_of_ble_eq_true rfl) (Nat.zero_le _) wp_md_word_d106 (fun hbq13 => ?_)
            cases h
            exact wt_iret hE hR wp_md_word_d109
          · have h := wt_ip c12 h
            refine wt_aload_n hE wp_md_word_d96 rfl ?_
            refine wt_iload_n hE wp_md_word_d97 rfl ?_
            obtain ⟨q14, hq14, h⟩ := wt_bi h
            refine wt_callVi hE [.int x1] wt_lm_md_301 wt_ya_md_priceOf (wp_md_priceOf_ok hD hq14) (by omega) (hD 108 (by decide) (by decide)) wt_L108 rfl rfl rfl (Nat.le_of_ble_eq_true rfl) (Nat.zero_le _) wp_md_word_d98 (fun hbq14 => ?_)
            refine wt_goto hE 109 wp_md_word_d101 rfl ?_
            cases h
            exact wt_iret hE hR wp_md_word_d109
        · have h := wt_ip c11 h
          refine wt_aload_n hE wp_md_word_d82 rfl ?_
          refine wt_getr hE (r := 130) wt_lf_md_77 (hD 108 (by decide) (by decide)) wt_L108 rfl wp_md_word_d83 ?_
          refine wt_iload_n hE wp_md_word_d86 rfl ?_
          obtain ⟨g15, h⟩ := wt_gd h
          refine wt_iald hE (hD 130 (by decide) (by decide)) wt_L130 g15 wp_md_word_d87 ?_
          refine wt_goto hE 109 wp_md_word_d88 rfl ?_
          cases h
          exact wt_iret hE hR wp_md_word_d109
      · have h := wt_ip c10 h
        refine wt_aload_n hE wp_md_word_d68 rfl ?_
        refine wt_getr hE (r := 128) wt_lf_md_71 (hD 108 (by decide) (by decide)) wt_L108 rfl wp_md_word_d69 ?_
        refine wt_iload_n hE wp_md_word_d72 rfl ?_
        obtain ⟨g16, h⟩ := wt_gd h
        refine wt_iald hE (hD 128 (by decide) (by decide)) wt_L128 g16 wp_md_word_d73 ?_
        refine wt_goto hE 109 wp_md_word_d74 rfl ?_
        cases h
        exact wt_iret hE hR wp_md_word_d109
    · have h := wt_ip c9 h
      refine wt_aload_n hE wp_md_word_d54 rfl ?_
      refine wt_getr hE (r := 126) wt_lf_md_65 (hD 108 (by decide) (by decide)) wt_L108 rfl wp_md_word_d55 ?_
      refine wt_iload_n hE wp_md_word_d58 rfl ?_
      obtain ⟨g17, h⟩ := wt_gd h
      refine wt_iald hE (hD 126 (by decide) (by decide)) wt_L126 g17 wp_md_word_d59 ?_
      refine wt_goto hE 109 wp_md_word_d60 rfl ?_
      cases h
      exact wt_iret hE hR wp_md_word_d109
  · have h := wt_in c8 h
    refine wt_iconst hE (0 : Int32) wp_md_word_d48 (by decide) ?_
    cases h
    exact wt_iret hE hR wp_md_word_d49
noncomputable def wp_md_word_B19 (n : Nat) (x1 : Int32) (x2 : Int32) (y1 : Int32) (σ : wt_St) : Option (Int32 × wt_St) :=
  (wp_md_bad n y1 (1 : Int32) σ).bind fun q3 =>
  if q3.1 = 0 then
    (wp_md_in n x2 (0 : Int32) (4 : Int32) q3.2).bind fun q5 =>
    if q5.1 = 0 then
      wp_md_word_B41 n x1 x2 (1 : Int32) q5.2
    else
      wp_md_word_B41 n x1 x2 (0 : Int32) q5.2
  else
    some ((0 : Int32), q3.2)
set_option maxRecDepth 100000 in
set_option maxHeartbeats 4000000 in
theorem wp_md_word_B19_ok  {x1 : Int32} {x2 : Int32} {X : wt_X} {n : Nat} {res : Int32 × wt_St} (hE : wt_Ok X prog_13_method_44_code 3 "WornTypeModel" 5 0) (hR : wt_Rt X (some .int) (some res.1) res.2) (hD : ∀ i, 108 ≤ i → i < 321 → wt_dom (wt_xw X) i)  {σ : wt_St} {y1 : Int32} (h : wp_md_word_B19 n x1 x2 y1 σ = some res) : wt_V X 0 σ 19 [some (.ref (wt_ad (wt_xw X) 108)), some (.int x1), some (.int x2)] [.int y1, .ref (wt_ad (wt_xw X) 108)] := by
  unfold wp_md_word_B19 at h
  refine wt_iconst hE (1 : Int32) wp_md_word_d19 (by decide) ?_
  obtain ⟨q3, hq3, h⟩ := wt_bi h
  refine wt_callVi hE [.int y1, .int (1 : Int32)] wt_lm_md_230 wt_ya_md_bad (wp_md_bad_ok hD hq3) (by omega) (hD 108 (by decide) (by decide)) wt_L108 rfl rfl rfl (Nat.le_of_ble_eq_true rfl) (Nat.zero_le _) wp_md_word_d20 (fun hbq3 => ?_)
  refine wt_if_ne hE 48 wp_md_word_d23 rfl (fun c4 => ?_) (fun c4 => ?_)
  · have h := wt_in c4 h
    refine wt_iconst hE (0 : Int32) wp_md_word_d48 (by decide) ?_
    cases h
    exact wt_iret hE hR wp_md_word_d49
  · have h := wt_ip c4 h
    refine wt_aload_n hE wp_md_word_d26 rfl ?_
    refine wt_iload_n hE wp_md_word_d27 rfl ?_
    refine wt_iconst hE (0 : Int32) wp_md_word_d28 (by decide) ?_
    refine wt_iconst hE (4 : Int32) wp_md_word_d29 (by decide) ?_
    obtain ⟨q5, hq5, h⟩ := wt_bi h
    refine wt_callSi hE [.int x2, .int (0 : Int32), .int (4 : Int32)] wt_lm_md_185 wt_ya_md_in (wp_md_in_ok hq5) (by omega) rfl rfl (Nat.le_of_ble_eq_true rfl) (Nat.zero_le _) wp_md_word_d30 (fun hbq5 => ?_)
    refine wt_if_ne hE 40 wp_md_word_d33 rfl (fun c6 => ?_) (fun c6 => ?_)
    · have h := wt_in c6 h
      refine wt_iconst hE (0 : Int32) wp_md_word_d40 (by decide) ?_
      exact wp_md_word_B41_ok hE hR hD h
    · have h := wt_ip c6 h
      refine wt_iconst hE (1 : Int32) wp_md_word_d36 (by decide) ?_
      refine wt_goto hE 41 wp_md_word_d37 rfl ?_
      exact wp_md_word_B41_ok hE hR hD h
noncomputable def wp_md_word (n : Nat) (x1 : Int32) (x2 : Int32) (σ : wt_St) : Option (Int32 × wt_St) :=
  (wp_md_isWordNumber n x1 (wt_sf σ 108 0 (0 : Int32))).bind fun q1 =>
  if q1.1 = 0 then
    wp_md_word_B19 n x1 x2 (1 : Int32) q1.2
  else
    wp_md_word_B19 n x1 x2 (0 : Int32) q1.2
set_option maxRecDepth 100000 in
set_option maxHeartbeats 4000000 in
theorem wp_md_word_ok {l : Launch} {w : wt_E} {n : Nat} {x1 : Int32} {x2 : Int32} (hD : ∀ i, 108 ≤ i → i < 321 → wt_dom w i) {σ : wt_St} {q : Int32 × wt_St} (h : wp_md_word n x1 x2 σ = some q) : wt_Ctr l w wt_y_md_word prog_13_method_44_code 3 (some .int) 5 [.ref (wt_ad w 108), .int x1, .int x2] σ (some q.1) q.2 := by
  refine wt_ctr wt_pl_md_word rfl (Nat.le_of_ble_eq_true rfl) [some (.ref (wt_ad w 108)), some (.int x1), some (.int x2)] rfl ?_
  intro X hXl hXw hE hR
  subst hXl
  subst hXw
  have hE : wt_Ok X prog_13_method_44_code 3 "WornTypeModel" 5 0 := hE
  unfold wp_md_word at h
  refine wt_aload_n hE wp_md_word_d0 rfl ?_
  refine wt_iconst hE (0 : Int32) wp_md_word_d1 (by decide) ?_
  refine wt_puti hE wt_lf_md_151 (hD 108 (by decide) (by decide)) wt_L108 rfl (fun q hq => by cases hq; rfl) wp_md_word_d2 ?_
  refine wt_aload_n hE wp_md_word_d5 rfl ?_
  refine wt_aload_n hE wp_md_word_d6 rfl ?_
  refine wt_iload_n hE wp_md_word_d7 rfl ?_
  obtain ⟨q1, hq1, h⟩ := wt_bi h
  refine wt_callVi hE [.int x1] wt_lm_md_298 wt_ya_md_isWordNumber (wp_md_isWordNumber_ok hD hq1) (by omega) (hD 108 (by decide) (by decide)) wt_L108 rfl rfl rfl (Nat.le_of_ble_eq_true rfl) (Nat.zero_le _) wp_md_word_d8 (fun hbq1 => ?_)
  refine wt_if_ne hE 18 wp_md_word_d11 rfl (fun c2 => ?_) (fun c2 => ?_)
  · have h := wt_in c2 h
    refine wt_iconst hE (0 : Int32) wp_md_word_d18 (by decide) ?_
    exact wp_md_word_B19_ok hE hR hD h
  · have h := wt_ip c2 h
    refine wt_iconst hE (1 : Int32) wp_md_word_d14 (by decide) ?_
    refine wt_goto hE 19 wp_md_word_d15 rfl ?_
    exact wp_md_word_B19_ok hE hR hD h
def wb20m10_prog_13_method_70_code_r2 : List (List Nat) := [164, 0, 9, 19, 1, 89, 167, 0, 13, 28, 42, 180, 0, 130, 3, 50, 29, 46, 96, 61, 132, 3, 1, 167, 255, 212, 28, 172] :: []
def wb20m10_prog_13_method_70_code_r1 : List (List Nat) := [42, 27, 182, 1, 90, 3, 61, 3, 62, 29, 42, 180, 1, 3, 162, 0, 42, 28, 42, 180, 0, 130, 3, 50, 29, 46, 96, 19, 1, 89] :: wb20m10_prog_13_method_70_code_r2
def wb20m10_prog_13_method_70_code_r0 : List (List Nat) := [42, 3, 181, 0, 151, 42, 42, 27, 182, 1, 51, 154, 0, 7, 4, 167, 0, 4, 3, 4, 182, 0, 230, 153, 0, 5, 3, 172] :: wb20m10_prog_13_method_70_code_r1
set_option maxRecDepth 100000 in
theorem wb20m10_prog_13_method_70_code_c0 : wt_cs prog_13_method_70_code 0 wb20m10_prog_13_method_70_code_r0 := wt_cs_of (by decide +kernel)
theorem wb20m10_prog_13_method_70_code_c1 : wt_cs prog_13_method_70_code 28 wb20m10_prog_13_method_70_code_r1 := wt_cs_tl (m := 28) wb20m10_prog_13_method_70_code_c0 rfl rfl
theorem wb20m10_prog_13_method_70_code_c2 : wt_cs prog_13_method_70_code 58 wb20m10_prog_13_method_70_code_r2 := wt_cs_tl (m := 30) wb20m10_prog_13_method_70_code_c1 rfl rfl
theorem wp_md_wordings_d0 : decode prog_13_method_70_code 0 = .ok (.aload_n 0, 1) := wt_op42 wb20m10_prog_13_method_70_code_c0 0 rfl rfl
theorem wp_md_wordings_d1 : decode prog_13_method_70_code 1 = .ok (.iconst 0, 1) := wt_op3 wb20m10_prog_13_method_70_code_c0 1 rfl rfl
theorem wp_md_wordings_d2 : decode prog_13_method_70_code 2 = .ok (.putfield 151, 3) := wt_op181 wb20m10_prog_13_method_70_code_c0 2 rfl rfl rfl
theorem wp_md_wordings_d5 : decode prog_13_method_70_code 5 = .ok (.aload_n 0, 1) := wt_op42 wb20m10_prog_13_method_70_code_c0 5 rfl rfl
theorem wp_md_wordings_d6 : decode prog_13_method_70_code 6 = .ok (.aload_n 0, 1) := wt_op42 wb20m10_prog_13_method_70_code_c0 6 rfl rfl
theorem wp_md_wordings_d7 : decode prog_13_method_70_code 7 = .ok (.iload_n 1, 1) := wt_op27 wb20m10_prog_13_method_70_code_c0 7 rfl rfl
theorem wp_md_wordings_d8 : decode prog_13_method_70_code 8 = .ok (.invokevirtual 307, 3) := wt_op182 wb20m10_prog_13_method_70_code_c0 8 rfl rfl rfl
theorem wp_md_wordings_d11 : decode prog_13_method_70_code 11 = .ok (.ifCond .ne 7, 3) := wt_op154 wb20m10_prog_13_method_70_code_c0 11 rfl rfl rfl
theorem wp_md_wordings_d14 : decode prog_13_method_70_code 14 = .ok (.iconst 1, 1) := wt_op4 wb20m10_prog_13_method_70_code_c0 14 rfl rfl
theorem wp_md_wordings_d15 : decode prog_13_method_70_code 15 = .ok (.goto 4, 3) := wt_op167 wb20m10_prog_13_method_70_code_c0 15 rfl rfl rfl
theorem wp_md_wordings_d18 : decode prog_13_method_70_code 18 = .ok (.iconst 0, 1) := wt_op3 wb20m10_prog_13_method_70_code_c0 18 rfl rfl
theorem wp_md_wordings_d19 : decode prog_13_method_70_code 19 = .ok (.iconst 1, 1) := wt_op4 wb20m10_prog_13_method_70_code_c0 19 rfl rfl
theorem wp_md_wordings_d20 : decode prog_13_method_70_code 20 = .ok (.invokevirtual 230, 3) := wt_op182 wb20m10_prog_13_method_70_code_c0 20 rfl rfl rfl
theorem wp_md_wordings_d23 : decode prog_13_method_70_code 23 = .ok (.ifCond .eq 5, 3) := wt_op153 wb20m10_prog_13_method_70_code_c0 23 rfl rfl rfl
theorem wp_md_wordings_d26 : decode prog_13_method_70_code 26 = .ok (.iconst 0, 1) := wt_op3 wb20m10_prog_13_method_70_code_c0 26 rfl rfl
theorem wp_md_wordings_d27 : decode prog_13_method_70_code 27 = .ok (.ireturn, 1) := wt_op172 wb20m10_prog_13_method_70_code_c0 27 rfl rfl
theorem wp_md_wordings_d28 : decode prog_13_method_70_code 28 = .ok (.aload_n 0, 1) := wt_op42 wb20m10_prog_13_method_70_code_c1 0 rfl rfl
theorem wp_md_wordings_d29 : decode prog_13_method_70_code 29 = .ok (.iload_n 1, 1) := wt_op27 wb20m10_prog_13_method_70_code_c1 1 rfl rfl
theorem wp_md_wordings_d30 : decode prog_13_method_70_code 30 = .ok (.invokevirtual 346, 3) := wt_op182 wb20m10_prog_13_method_70_code_c1 2 rfl rfl rfl
theorem wp_md_wordings_d33 : decode prog_13_method_70_code 33 = .ok (.iconst 0, 1) := wt_op3 wb20m10_prog_13_method_70_code_c1 5 rfl rfl
theorem wp_md_wordings_d34 : decode prog_13_method_70_code 34 = .ok (.istore_n 2, 1) := wt_op61 wb20m10_prog_13_method_70_code_c1 6 rfl rfl
theorem wp_md_wordings_d35 : decode prog_13_method_70_code 35 = .ok (.iconst 0, 1) := wt_op3 wb20m10_prog_13_method_70_code_c1 7 rfl rfl
theorem wp_md_wordings_d36 : decode prog_13_method_70_code 36 = .ok (.istore_n 3, 1) := wt_op62 wb20m10_prog_13_method_70_code_c1 8 rfl rfl
theorem wp_md_wordings_d37 : decode prog_13_method_70_code 37 = .ok (.iload_n 3, 1) := wt_op29 wb20m10_prog_13_method_70_code_c1 9 rfl rfl
theorem wp_md_wordings_d38 : decode prog_13_method_70_code 38 = .ok (.aload_n 0, 1) := wt_op42 wb20m10_prog_13_method_70_code_c1 10 rfl rfl
theorem wp_md_wordings_d39 : decode prog_13_method_70_code 39 = .ok (.getfield 259, 3) := wt_op180 wb20m10_prog_13_method_70_code_c1 11 rfl rfl rfl
theorem wp_md_wordings_d42 : decode prog_13_method_70_code 42 = .ok (.if_icmp .ge 42, 3) := wt_op162 wb20m10_prog_13_method_70_code_c1 14 rfl rfl rfl
theorem wp_md_wordings_d45 : decode prog_13_method_70_code 45 = .ok (.iload_n 2, 1) := wt_op28 wb20m10_prog_13_method_70_code_c1 17 rfl rfl
theorem wp_md_wordings_d46 : decode prog_13_method_70_code 46 = .ok (.aload_n 0, 1) := wt_op42 wb20m10_prog_13_method_70_code_c1 18 rfl rfl
theorem wp_md_wordings_d47 : decode prog_13_method_70_code 47 = .ok (.getfield 130, 3) := wt_op180 wb20m10_prog_13_method_70_code_c1 19 rfl rfl rfl
theorem wp_md_wordings_d50 : decode prog_13_method_70_code 50 = .ok (.iconst 0, 1) := wt_op3 wb20m10_prog_13_method_70_code_c1 22 rfl rfl
theorem wp_md_wordings_d51 : decode prog_13_method_70_code 51 = .ok (.aaload, 1) := wt_op50 wb20m10_prog_13_method_70_code_c1 23 rfl rfl
theorem wp_md_wordings_d52 : decode prog_13_method_70_code 52 = .ok (.iload_n 3, 1) := wt_op29 wb20m10_prog_13_method_70_code_c1 24 rfl rfl
theorem wp_md_wordings_d53 : decode prog_13_method_70_code 53 = .ok (.iaload, 1) := wt_op46 wb20m10_prog_13_method_70_code_c1 25 rfl rfl
theorem wp_md_wordings_d54 : decode prog_13_method_70_code 54 = .ok (.iadd, 1) := wt_op96 wb20m10_prog_13_method_70_code_c1 26 rfl rfl
theorem wp_md_wordings_d55 : decode prog_13_method_70_code 55 = .ok (.ldc_w 345, 3) := wt_op19 wb20m10_prog_13_method_70_code_c1 27 rfl rfl rfl
theorem wp_md_wordings_d58 : decode prog_13_method_70_code 58 = .ok (.if_icmp .le 9, 3) := wt_op164 wb20m10_prog_13_method_70_code_c2 0 rfl rfl rfl
theorem wp_md_wordings_d61 : decode prog_13_method_70_code 61 = .ok (.ldc_w 345, 3) := wt_op19 wb20m10_prog_13_method_70_code_c2 3 rfl rfl rfl
theorem wp_md_wordings_d64 : decode prog_13_method_70_code 64 = .ok (.goto 13, 3) := wt_op167 wb20m10_prog_13_method_70_code_c2 6 rfl rfl rfl
theorem wp_md_wordings_d67 : decode prog_13_method_70_code 67 = .ok (.iload_n 2, 1) := wt_op28 wb20m10_prog_13_method_70_code_c2 9 rfl rfl
theorem wp_md_wordings_d68 : decode prog_13_method_70_code 68 = .ok (.aload_n 0, 1) := wt_op42 wb20m10_prog_13_method_70_code_c2 10 rfl rfl
theorem wp_md_wordings_d69 : decode prog_13_method_70_code 69 = .ok (.getfield 130, 3) := wt_op180 wb20m10_prog_13_method_70_code_c2 11 rfl rfl rfl
theorem wp_md_wordings_d72 : decode prog_13_method_70_code 72 = .ok (.iconst 0, 1) := wt_op3 wb20m10_prog_13_method_70_code_c2 14 rfl rfl
theorem wp_md_wordings_d73 : decode prog_13_method_70_code 73 = .ok (.aaload, 1) := wt_op50 wb20m10_prog_13_method_70_code_c2 15 rfl rfl
theorem wp_md_wordings_d74 : decode prog_13_method_70_code 74 = .ok (.iload_n 3, 1) := wt_op29 wb20m10_prog_13_method_70_code_c2 16 rfl rfl
theorem wp_md_wordings_d75 : decode prog_13_method_70_code 75 = .ok (.iaload, 1) := wt_op46 wb20m10_prog_13_method_70_code_c2 17 rfl rfl
theorem wp_md_wordings_d76 : decode prog_13_method_70_code 76 = .ok (.iadd, 1) := wt_op96 wb20m10_prog_13_method_70_code_c2 18 rfl rfl
theorem wp_md_wordings_d77 : decode prog_13_method_70_code 77 = .ok (.istore_n 2, 1) := wt_op61 wb20m10_prog_13_method_70_code_c2 19 rfl rfl
theorem wp_md_wordings_d78 : decode prog_13_method_70_code 78 = .ok (.iinc 3 1, 3) := wt_op132 wb20m10_prog_13_method_70_code_c2 20 rfl rfl rfl
theorem wp_md_wordings_d81 : decode prog_13_method_70_code 81 = .ok (.goto (-44), 3) := wt_op167 wb20m10_prog_13_method_70_code_c2 23 rfl rfl rfl
theorem wp_md_wordings_d84 : decode prog_13_method_70_code 84 = .ok (.iload_n 2, 1) := wt_op28 wb20m10_prog_13_method_70_code_c2 26 rfl rfl
theorem wp_md_wordings_d85 : decode prog_13_method_70_code 85 = .ok (.ireturn, 1) := wt_op172 wb20m10_prog_13_method_70_code_c2 27 rfl rfl
noncomputable def wp_md_wordings_B77 (n : Nat) (x3 : Int32) (K37 : Int32 × Int32 × wt_St → Option (Int32 × wt_St)) (y0 : Int32) (σ : wt_St) : Option (Int32 × wt_St) :=
  K37 (y0, (x3 + (1 : Int32)), σ)
set_option maxRecDepth 100000 in
set_option maxHeartbeats 4000000 in
theorem wp_md_wordings_B77_ok  {x3 : Int32} {X : wt_X} {n : Nat} {res : Int32 × wt_St} (hE : wt_Ok X prog_13_method_70_code 4 "WornTypeModel" 2 0) (hR : wt_Rt X (some .int) (some res.1) res.2) (hD : ∀ i, 108 ≤ i → i < 321 → wt_dom (wt_xw X) i)  {K37 : Int32 × Int32 × wt_St → Option (Int32 × wt_St)} (hK37 : ∀ s : Int32 × Int32 × wt_St, K37 s = some res → wt_V X 0 s.2.2 37 [some (.ref (wt_ad (wt_xw X) 108)), none, some (.int s.1), some (.int s.2.1)] []) {σ : wt_St} {y0 : Int32} (h : wp_md_wordings_B77 n x3 K37 y0 σ = some res) : wt_V X 0 σ 77 [some (.ref (wt_ad (wt_xw X) 108)), none, none, some (.int x3)] [.int y0] := by
  unfold wp_md_wordings_B77 at h
  refine wt_istore_n hE [some (.ref (wt_ad (wt_xw X) 108)), none, some (.int y0), some (.int x3)] wp_md_wordings_d77 (by decide) rfl ?_
  refine wt_iinc hE (x3 + (1 : Int32)) [some (.ref (wt_ad (wt_xw X) 108)), none, some (.int y0), some (.int (x3 + (1 : Int32)))] wp_md_wordings_d78 (by decide) rfl rfl rfl ?_
  refine wt_goto hE 37 wp_md_wordings_d81 rfl ?_
  exact hK37 (y0, (x3 + (1 : Int32)), σ) h
noncomputable def wp_md_wordings_B37 (n : Nat) (K37 : Int32 × Int32 × wt_St → Option (Int32 × wt_St)) (s : Int32 × Int32 × wt_St) : Option (Int32 × wt_St) :=
  if (wt_gf s.2.2 108 28) ≤ s.2.1 then
    some (s.1, s.2.2)
  else
    if (0 : Int32) < 0 ∨ 12 ≤ Int32.toNatClampNeg (0 : Int32) then none else
    if s.2.1 < 0 ∨ 60 ≤ Int32.toNatClampNeg s.2.1 then none else
    if (s.1 + (wt_ga s.2.2 (305 + Int32.toNatClampNeg (0 : Int32)) (Int32.toNatClampNeg s.2.1))) ≤ (1000000 : Int32) then
      if (0 : Int32) < 0 ∨ 12 ≤ Int32.toNatClampNeg (0 : Int32) then none else
      if s.2.1 < 0 ∨ 60 ≤ Int32.toNatClampNeg s.2.1 then none else
      wp_md_wordings_B77 n s.2.1 K37 (s.1 + (wt_ga s.2.2 (305 + Int32.toNatClampNeg (0 : Int32)) (Int32.toNatClampNeg s.2.1))) s.2.2
    else
      wp_md_wordings_B77 n s.2.1 K37 (1000000 : Int32) s.2.2
set_option maxRecDepth 100000 in
set_option maxHeartbeats 4000000 in
theorem wp_md_wordings_B37_ok  {X : wt_X} {n : Nat} {res : Int32 × wt_St} (hE : wt_Ok X prog_13_method_70_code 4 "WornTypeModel" 2 0) (hR : wt_Rt X (some .int) (some res.1) res.2) (hD : ∀ i, 108 ≤ i → i < 321 → wt_dom (wt_xw X) i)  {K37 : Int32 × Int32 × wt_St → Option (Int32 × wt_St)} (hK37 : ∀ s : Int32 × Int32 × wt_St, K37 s = some res → wt_V X 0 s.2.2 37 [some (.ref (wt_ad (wt_xw X) 108)), none, some (.int s.1), some (.int s.2.1)] []) {s : Int32 × Int32 × wt_St} (h : wp_md_wordings_B37 n K37 s = some res) : wt_V X 0 s.2.2 37 [some (.ref (wt_ad (wt_xw X) 108)), none, some (.int s.1), some (.int s.2.1)] [] := by
  unfold wp_md_wordings_B37 at h
  refine wt_iload_n hE wp_md_wordings_d37 rfl ?_
  refine wt_aload_n hE wp_md_wordings_d38 rfl ?_
  refine wt_geti hE wt_lf_md_259 (hD 108 (by decide) (by decide)) wt_L108 rfl wp_md_wordings_d39 ?_
  refine wt_icmp_ge hE 84 wp_md_wordings_d42 rfl (fun c6 => ?_) (fun c6 => ?_)
  · have h := wt_ip c6 h
    refine wt_iload_n hE wp_md_wordings_d84 rfl ?_
    cases h
    exact wt_iret hE hR wp_md_wordings_d85
  · have h := wt_in c6 h
    refine wt_iload_n hE wp_md_wordings_d45 rfl ?_
    refine wt_aload_n hE wp_md_wordings_d46 rfl ?_
    refine wt_getr hE (r := 304) wt_lf_md_130 (hD 108 (by decide) (by decide)) wt_L108 rfl wp_md_wordings_d47 ?_
    refine wt_iconst hE (0 : Int32) wp_md_wordings_d50 (by decide) ?_
    obtain ⟨g7, h⟩ := wt_gd h
    have lg7 := wt_lt g7
    refine wt_aald1 hE (hD 304 (by decide) (by decide)) wt_L304 g7 wp_md_wordings_d51 ?_
    refine wt_iload_n hE wp_md_wordings_d52 rfl ?_
    obtain ⟨g8, h⟩ := wt_gd h
    refine wt_iald hE (hD _ (by omega) (by omega)) (wt_G305 _ lg7) g8 wp_md_wordings_d53 ?_
    refine wt_iadd hE wp_md_wordings_d54 ?_
    refine wt_ldcw hE (1000000 : Int32) wt_lc_md_345 wp_md_wordings_d55 ?_
    refine wt_icmp_le hE 67 wp_md_wordings_d58 rfl (fun c9 => ?_) (fun c9 => ?_)
    · have h := wt_ip c9 h
      refine wt_iload_n hE wp_md_wordings_d67 rfl ?_
      refine wt_aload_n hE wp_md_wordings_d68 rfl ?_
      refine wt_getr hE (r := 304) wt_lf_md_130 (hD 108 (by decide) (by decide)) wt_L108 rfl wp_md_wordings_d69 ?_
      refine wt_iconst hE (0 : Int32) wp_md_wordings_d72 (by decide) ?_
      obtain ⟨g10, h⟩ := wt_gd h
      have lg10 := wt_lt g10
      refine wt_aald1 hE (hD 304 (by decide) (by decide)) wt_L304 g10 wp_md_wordings_d73 ?_
      refine wt_iload_n hE wp_md_wordings_d74 rfl ?_
      obtain ⟨g11, h⟩ := wt_gd h
      refine wt_iald hE (hD _ (by omega) (by omega)) (wt_G305 _ lg10) g11 wp_md_wordings_d75 ?_
      refine wt_iadd hE wp_md_wordings_d76 ?_
      refine wt_wk [true, true, false, true] rfl ?_
      exact wp_md_wordings_B77_ok hE hR hD hK37 h
    · have h := wt_in c9 h
      refine wt_ldcw hE (1000000 : Int32) wt_lc_md_345 wp_md_wordings_d61 ?_
      refine wt_goto hE 77 wp_md_wordings_d64 rfl ?_
      refine wt_wk [true, true, false, true] rfl ?_
      exact wp_md_wordings_B77_ok hE hR hD hK37 h
noncomputable def wp_md_wordings_B19 (n : Nat) (x1 : Int32) (y1 : Int32) (σ : wt_St) : Option (Int32 × wt_St) :=
  (wp_md_bad n y1 (1 : Int32) σ).bind fun q3 =>
  if q3.1 = 0 then
    (wp_md_laysRests n x1 q3.2).bind fun q5 =>
    wt_it (wp_md_wordings_B37 n) n ((0 : Int32), (0 : Int32), q5)
  else
    some ((0 : Int32), q3.2)
set_option maxRecDepth 100000 in
set_option maxHeartbeats 4000000 in
theorem wp_md_wordings_B19_ok  {x1 : Int32} {X : wt_X} {n : Nat} {res : Int32 × wt_St} (hE : wt_Ok X prog_13_method_70_code 4 "WornTypeModel" 2 0) (hR : wt_Rt X (some .int) (some res.1) res.2) (hD : ∀ i, 108 ≤ i → i < 321 → wt_dom (wt_xw X) i)  {σ : wt_St} {y1 : Int32} (h : wp_md_wordings_B19 n x1 y1 σ = some res) : wt_V X 0 σ 19 [some (.ref (wt_ad (wt_xw X) 108)), some (.int x1), none, none] [.int y1, .ref (wt_ad (wt_xw X) 108)] := by
  unfold wp_md_wordings_B19 at h
  refine wt_iconst hE (1 : Int32) wp_md_wordings_d19 (by decide) ?_
  obtain ⟨q3, hq3, h⟩ := wt_bi h
  refine wt_callVi hE [.int y1, .int (1 : Int32)] wt_lm_md_230 wt_ya_md_bad (wp_md_bad_ok hD hq3) (by omega) (hD 108 (by decide) (by decide)) wt_L108 rfl rfl rfl (Nat.le_of_ble_eq_true rfl) (Nat.zero_le _) wp_md_wordings_d20 (fun hbq3 => ?_)
  refine wt_if_eq hE 28 wp_md_wordings_d23 rfl (fun c4 => ?_) (fun c4 => ?_)
  · have h := wt_ip c4 h
    refine wt_aload_n hE wp_md_wordings_d28 rfl ?_
    refine wt_iload_n hE wp_md_wordings_d29 rfl ?_
    obtain ⟨q5, hq5, h⟩ := wt_bi h
    refine wt_callVv hE [.int x1] wt_lm_md_346 wt_ya_md_laysRests (wp_md_laysRests_ok hD hq5) (by omega) (hD 108 (by decide) (by decide)) wt_L108 rfl rfl rfl (Nat.le_of_ble_eq_true rfl) (Nat.zero_le _) wp_md_wordings_d30 ?_
    refine wt_iconst hE (0 : Int32) wp_md_wordings_d33 (by decide) ?_
    refine wt_istore_n hE [some (.ref (wt_ad (wt_xw X) 108)), some (.int x1), some (.int (0 : Int32)), none] wp_md_wordings_d34 (by decide) rfl ?_
    refine wt_iconst hE (0 : Int32) wp_md_wordings_d35 (by decide) ?_
    refine wt_istore_n hE [some (.ref (wt_ad (wt_xw X) 108)), some (.int x1), some (.int (0 : Int32)), some (.int (0 : Int32))] wp_md_wordings_d36 (by decide) rfl ?_
    refine wt_wk [true, false, true, true] rfl ?_
    exact wt_it_ind (fun z => wt_V X 0 z.2.2 37 [some (.ref (wt_ad (wt_xw X) 108)), none, some (.int z.1), some (.int z.2.1)] []) (fun K hK z h => wp_md_wordings_B37_ok hE hR hD hK h) n ((0 : Int32), (0 : Int32), q5) h
  · have h := wt_in c4 h
    refine wt_iconst hE (0 : Int32) wp_md_wordings_d26 (by decide) ?_
    cases h
    exact wt_iret hE hR wp_md_wordings_d27
noncomputable def wp_md_wordings (n : Nat) (x1 : Int32) (σ : wt_St) : Option (Int32 × wt_St) :=
  (wp_md_isText n x1 (wt_sf σ 108 0 (0 : Int32))).bind fun q1 =>
  if q1.1 = 0 then
    wp_md_wordings_B19 n x1 (1 : Int32) q1.2
  else
    wp_md_wordings_B19 n x1 (0 : Int32) q1.2
set_option maxRecDepth 100000 in
set_option maxHeartbeats 4000000 in
theorem wp_md_wordings_ok {l : Launch} {w : wt_E} {n : Nat} {x1 : Int32} (hD : ∀ i, 108 ≤ i → i < 321 → wt_dom w i) {σ : wt_St} {q : Int32 × wt_St} (h : wp_md_wordings n x1 σ = some q) : wt_Ctr l w wt_y_md_wordings prog_13_method_70_code 4 (some .int) 2 [.ref (wt_ad w 108), .int x1] σ (some q.1) q.2 := by
  refine wt_ctr wt_pl_md_wordings rfl (Nat.le_of_ble_eq_true rfl) [some (.ref (wt_ad w 108)), some (.int x1), none, none] rfl ?_
  intro X hXl hXw hE hR
  subst hXl
  subst hXw
  have hE : wt_Ok X prog_13_method_70_code 4 "WornTypeModel" 2 0 := hE
  unfold wp_md_wordings at h
  refine wt_aload_n hE wp_md_wordings_d0 rfl ?_
  refine wt_iconst hE (0 : Int32) wp_md_wordings_d1 (by decide) ?_
  refine wt_puti hE wt_lf_md_151 (hD 108 (by decide) (by decide)) wt_L108 rfl (fun q hq => by cases hq; rfl) wp_md_wordings_d2 ?_
  refine wt_aload_n hE wp_md_wordings_d5 rfl ?_
  refine wt_aload_n hE wp_md_wordings_d6 rfl ?_
  refine wt_iload_n hE wp_md_wordings_d7 rfl ?_
  obtain ⟨q1, hq1, h⟩ := wt_bi h
  refine wt_callVi hE [.int x1] wt_lm_md_307 wt_ya_md_isText (wp_md_isText_ok hD hq1) (by omega) (hD 108 (by decide) (by decide)) wt_L108 rfl rfl rfl (Nat.le_of_ble_eq_true rfl) (Nat.zero_le _) wp_md_wordings_d8 (fun hbq1 => ?_)
  refine wt_if_ne hE 18 wp_md_wordings_d11 rfl (fun c2 => ?_) (fun c2 => ?_)
  · have h := wt_in c2 h
    refine wt_iconst hE (0 : Int32) wp_md_wordings_d18 (by decide) ?_
    exact wp_md_wordings_B19_ok hE hR hD h
  · have h := wt_ip c2 h
    refine wt_iconst hE (1 : Int32) wp_md_wordings_d14 (by decide) ?_
    refine wt_goto hE 19 wp_md_wordings_d15 rfl ?_
    exact wp_md_wordings_B19_ok hE hR hD h
