-- 20.m10.lean.txt
section WTQ0
def wb20m10_prog_13_method_71_code_r5 : List (List Nat) := [180, 1, 12, 172] :: []
def wb20m10_prog_13_method_71_code_r4 : List (List Nat) := [50, 5, 29, 79, 42, 180, 0, 94, 42, 180, 1, 12, 50, 6, 21, 4, 79, 42, 89, 180, 1, 12, 4, 96, 181, 1, 12, 42] :: wb20m10_prog_13_method_71_code_r5
def wb20m10_prog_13_method_71_code_r3 : List (List Nat) := [42, 180, 1, 12, 50, 3, 27, 79, 42, 180, 0, 94, 42, 180, 1, 12, 50, 4, 28, 79, 42, 180, 0, 94, 42, 180, 1, 12] :: wb20m10_prog_13_method_71_code_r4
def wb20m10_prog_13_method_71_code_r2 : List (List Nat) := [4, 167, 0, 4, 3, 5, 182, 0, 230, 153, 0, 5, 3, 172, 42, 180, 1, 12, 16, 10, 160, 0, 5, 2, 172, 42, 180, 0, 94] :: wb20m10_prog_13_method_71_code_r3
def wb20m10_prog_13_method_71_code_r1 : List (List Nat) := [184, 1, 57, 153, 0, 25, 29, 3, 16, 99, 184, 0, 185, 153, 0, 15, 21, 4, 4, 17, 3, 231, 184, 0, 185, 154, 0, 7] :: wb20m10_prog_13_method_71_code_r2
def wb20m10_prog_13_method_71_code_r0 : List (List Nat) := [42, 3, 181, 0, 151, 42, 42, 27, 182, 1, 51, 154, 0, 7, 4, 167, 0, 4, 3, 4, 182, 0, 230, 154, 0, 45, 42, 28] :: wb20m10_prog_13_method_71_code_r1
set_option maxRecDepth 100000 in
theorem wb20m10_prog_13_method_71_code_c0 : wt_cs prog_13_method_71_code 0 wb20m10_prog_13_method_71_code_r0 := wt_cs_of (by decide +kernel)
theorem wb20m10_prog_13_method_71_code_c1 : wt_cs prog_13_method_71_code 28 wb20m10_prog_13_method_71_code_r1 := wt_cs_tl (m := 28) wb20m10_prog_13_method_71_code_c0 rfl rfl
theorem wb20m10_prog_13_method_71_code_c2 : wt_cs prog_13_method_71_code 56 wb20m10_prog_13_method_71_code_r2 := wt_cs_tl (m := 28) wb20m10_prog_13_method_71_code_c1 rfl rfl
theorem wb20m10_prog_13_method_71_code_c3 : wt_cs prog_13_method_71_code 85 wb20m10_prog_13_method_71_code_r3 := wt_cs_tl (m := 29) wb20m10_prog_13_method_71_code_c2 rfl rfl
theorem wb20m10_prog_13_method_71_code_c4 : wt_cs prog_13_method_71_code 113 wb20m10_prog_13_method_71_code_r4 := wt_cs_tl (m := 28) wb20m10_prog_13_method_71_code_c3 rfl rfl
theorem wb20m10_prog_13_method_71_code_c5 : wt_cs prog_13_method_71_code 141 wb20m10_prog_13_method_71_code_r5 := wt_cs_tl (m := 28) wb20m10_prog_13_method_71_code_c4 rfl rfl
theorem wp_md_want_d0 : decode prog_13_method_71_code 0 = .ok (.aload_n 0, 1) := wt_op42 wb20m10_prog_13_method_71_code_c0 0 rfl rfl
theorem wp_md_want_d1 : decode prog_13_method_71_code 1 = .ok (.iconst 0, 1) := wt_op3 wb20m10_prog_13_method_71_code_c0 1 rfl rfl
theorem wp_md_want_d2 : decode prog_13_method_71_code 2 = .ok (.putfield 151, 3) := wt_op181 wb20m10_prog_13_method_71_code_c0 2 rfl rfl rfl
theorem wp_md_want_d5 : decode prog_13_method_71_code 5 = .ok (.aload_n 0, 1) := wt_op42 wb20m10_prog_13_method_71_code_c0 5 rfl rfl
theorem wp_md_want_d6 : decode prog_13_method_71_code 6 = .ok (.aload_n 0, 1) := wt_op42 wb20m10_prog_13_method_71_code_c0 6 rfl rfl
theorem wp_md_want_d7 : decode prog_13_method_71_code 7 = .ok (.iload_n 1, 1) := wt_op27 wb20m10_prog_13_method_71_code_c0 7 rfl rfl
theorem wp_md_want_d8 : decode prog_13_method_71_code 8 = .ok (.invokevirtual 307, 3) := wt_op182 wb20m10_prog_13_method_71_code_c0 8 rfl rfl rfl
theorem wp_md_want_d11 : decode prog_13_method_71_code 11 = .ok (.ifCond .ne 7, 3) := wt_op154 wb20m10_prog_13_method_71_code_c0 11 rfl rfl rfl
theorem wp_md_want_d14 : decode prog_13_method_71_code 14 = .ok (.iconst 1, 1) := wt_op4 wb20m10_prog_13_method_71_code_c0 14 rfl rfl
theorem wp_md_want_d15 : decode prog_13_method_71_code 15 = .ok (.goto 4, 3) := wt_op167 wb20m10_prog_13_method_71_code_c0 15 rfl rfl rfl
theorem wp_md_want_d18 : decode prog_13_method_71_code 18 = .ok (.iconst 0, 1) := wt_op3 wb20m10_prog_13_method_71_code_c0 18 rfl rfl
theorem wp_md_want_d19 : decode prog_13_method_71_code 19 = .ok (.iconst 1, 1) := wt_op4 wb20m10_prog_13_method_71_code_c0 19 rfl rfl
theorem wp_md_want_d20 : decode prog_13_method_71_code 20 = .ok (.invokevirtual 230, 3) := wt_op182 wb20m10_prog_13_method_71_code_c0 20 rfl rfl rfl
theorem wp_md_want_d23 : decode prog_13_method_71_code 23 = .ok (.ifCond .ne 45, 3) := wt_op154 wb20m10_prog_13_method_71_code_c0 23 rfl rfl rfl
theorem wp_md_want_d26 : decode prog_13_method_71_code 26 = .ok (.aload_n 0, 1) := wt_op42 wb20m10_prog_13_method_71_code_c0 26 rfl rfl
theorem wp_md_want_d27 : decode prog_13_method_71_code 27 = .ok (.iload_n 2, 1) := wt_op28 wb20m10_prog_13_method_71_code_c0 27 rfl rfl
theorem wp_md_want_d28 : decode prog_13_method_71_code 28 = .ok (.invokestatic 313, 3) := wt_op184 wb20m10_prog_13_method_71_code_c1 0 rfl rfl rfl
theorem wp_md_want_d31 : decode prog_13_method_71_code 31 = .ok (.ifCond .eq 25, 3) := wt_op153 wb20m10_prog_13_method_71_code_c1 3 rfl rfl rfl
theorem wp_md_want_d34 : decode prog_13_method_71_code 34 = .ok (.iload_n 3, 1) := wt_op29 wb20m10_prog_13_method_71_code_c1 6 rfl rfl
theorem wp_md_want_d35 : decode prog_13_method_71_code 35 = .ok (.iconst 0, 1) := wt_op3 wb20m10_prog_13_method_71_code_c1 7 rfl rfl
theorem wp_md_want_d36 : decode prog_13_method_71_code 36 = .ok (.bipush 99, 2) := wt_op16 wb20m10_prog_13_method_71_code_c1 8 rfl rfl rfl
theorem wp_md_want_d38 : decode prog_13_method_71_code 38 = .ok (.invokestatic 185, 3) := wt_op184 wb20m10_prog_13_method_71_code_c1 10 rfl rfl rfl
theorem wp_md_want_d41 : decode prog_13_method_71_code 41 = .ok (.ifCond .eq 15, 3) := wt_op153 wb20m10_prog_13_method_71_code_c1 13 rfl rfl rfl
theorem wp_md_want_d44 : decode prog_13_method_71_code 44 = .ok (.iload 4, 2) := wt_op21 wb20m10_prog_13_method_71_code_c1 16 rfl rfl
theorem wp_md_want_d46 : decode prog_13_method_71_code 46 = .ok (.iconst 1, 1) := wt_op4 wb20m10_prog_13_method_71_code_c1 18 rfl rfl
theorem wp_md_want_d47 : decode prog_13_method_71_code 47 = .ok (.sipush 999, 3) := wt_op17 wb20m10_prog_13_method_71_code_c1 19 rfl rfl rfl
theorem wp_md_want_d50 : decode prog_13_method_71_code 50 = .ok (.invokestatic 185, 3) := wt_op184 wb20m10_prog_13_method_71_code_c1 22 rfl rfl rfl
theorem wp_md_want_d53 : decode prog_13_method_71_code 53 = .ok (.ifCond .ne 7, 3) := wt_op154 wb20m10_prog_13_method_71_code_c1 25 rfl rfl rfl
theorem wp_md_want_d56 : decode prog_13_method_71_code 56 = .ok (.iconst 1, 1) := wt_op4 wb20m10_prog_13_method_71_code_c2 0 rfl rfl
theorem wp_md_want_d57 : decode prog_13_method_71_code 57 = .ok (.goto 4, 3) := wt_op167 wb20m10_prog_13_method_71_code_c2 1 rfl rfl rfl
theorem wp_md_want_d60 : decode prog_13_method_71_code 60 = .ok (.iconst 0, 1) := wt_op3 wb20m10_prog_13_method_71_code_c2 4 rfl rfl
theorem wp_md_want_d61 : decode prog_13_method_71_code 61 = .ok (.iconst 2, 1) := wt_op5 wb20m10_prog_13_method_71_code_c2 5 rfl rfl
theorem wp_md_want_d62 : decode prog_13_method_71_code 62 = .ok (.invokevirtual 230, 3) := wt_op182 wb20m10_prog_13_method_71_code_c2 6 rfl rfl rfl
theorem wp_md_want_d65 : decode prog_13_method_71_code 65 = .ok (.ifCond .eq 5, 3) := wt_op153 wb20m10_prog_13_method_71_code_c2 9 rfl rfl rfl
theorem wp_md_want_d68 : decode prog_13_method_71_code 68 = .ok (.iconst 0, 1) := wt_op3 wb20m10_prog_13_method_71_code_c2 12 rfl rfl
theorem wp_md_want_d69 : decode prog_13_method_71_code 69 = .ok (.ireturn, 1) := wt_op172 wb20m10_prog_13_method_71_code_c2 13 rfl rfl
theorem wp_md_want_d70 : decode prog_13_method_71_code 70 = .ok (.aload_n 0, 1) := wt_op42 wb20m10_prog_13_method_71_code_c2 14 rfl rfl
theorem wp_md_want_d71 : decode prog_13_method_71_code 71 = .ok (.getfield 268, 3) := wt_op180 wb20m10_prog_13_method_71_code_c2 15 rfl rfl rfl
theorem wp_md_want_d74 : decode prog_13_method_71_code 74 = .ok (.bipush 10, 2) := wt_op16 wb20m10_prog_13_method_71_code_c2 18 rfl rfl rfl
theorem wp_md_want_d76 : decode prog_13_method_71_code 76 = .ok (.if_icmp .ne 5, 3) := wt_op160 wb20m10_prog_13_method_71_code_c2 20 rfl rfl rfl
theorem wp_md_want_d79 : decode prog_13_method_71_code 79 = .ok (.iconst (-1), 1) := wt_op2 wb20m10_prog_13_method_71_code_c2 23 rfl rfl
theorem wp_md_want_d80 : decode prog_13_method_71_code 80 = .ok (.ireturn, 1) := wt_op172 wb20m10_prog_13_method_71_code_c2 24 rfl rfl
theorem wp_md_want_d81 : decode prog_13_method_71_code 81 = .ok (.aload_n 0, 1) := wt_op42 wb20m10_prog_13_method_71_code_c2 25 rfl rfl
theorem wp_md_want_d82 : decode prog_13_method_71_code 82 = .ok (.getfield 94, 3) := wt_op180 wb20m10_prog_13_method_71_code_c2 26 rfl rfl rfl
theorem wp_md_want_d85 : decode prog_13_method_71_code 85 = .ok (.aload_n 0, 1) := wt_op42 wb20m10_prog_13_method_71_code_c3 0 rfl rfl
theorem wp_md_want_d86 : decode prog_13_method_71_code 86 = .ok (.getfield 268, 3) := wt_op180 wb20m10_prog_13_method_71_code_c3 1 rfl rfl rfl
theorem wp_md_want_d89 : decode prog_13_method_71_code 89 = .ok (.aaload, 1) := wt_op50 wb20m10_prog_13_method_71_code_c3 4 rfl rfl
theorem wp_md_want_d90 : decode prog_13_method_71_code 90 = .ok (.iconst 0, 1) := wt_op3 wb20m10_prog_13_method_71_code_c3 5 rfl rfl
theorem wp_md_want_d91 : decode prog_13_method_71_code 91 = .ok (.iload_n 1, 1) := wt_op27 wb20m10_prog_13_method_71_code_c3 6 rfl rfl
theorem wp_md_want_d92 : decode prog_13_method_71_code 92 = .ok (.iastore, 1) := wt_op79 wb20m10_prog_13_method_71_code_c3 7 rfl rfl
theorem wp_md_want_d93 : decode prog_13_method_71_code 93 = .ok (.aload_n 0, 1) := wt_op42 wb20m10_prog_13_method_71_code_c3 8 rfl rfl
theorem wp_md_want_d94 : decode prog_13_method_71_code 94 = .ok (.getfield 94, 3) := wt_op180 wb20m10_prog_13_method_71_code_c3 9 rfl rfl rfl
theorem wp_md_want_d97 : decode prog_13_method_71_code 97 = .ok (.aload_n 0, 1) := wt_op42 wb20m10_prog_13_method_71_code_c3 12 rfl rfl
theorem wp_md_want_d98 : decode prog_13_method_71_code 98 = .ok (.getfield 268, 3) := wt_op180 wb20m10_prog_13_method_71_code_c3 13 rfl rfl rfl
theorem wp_md_want_d101 : decode prog_13_method_71_code 101 = .ok (.aaload, 1) := wt_op50 wb20m10_prog_13_method_71_code_c3 16 rfl rfl
theorem wp_md_want_d102 : decode prog_13_method_71_code 102 = .ok (.iconst 1, 1) := wt_op4 wb20m10_prog_13_method_71_code_c3 17 rfl rfl
theorem wp_md_want_d103 : decode prog_13_method_71_code 103 = .ok (.iload_n 2, 1) := wt_op28 wb20m10_prog_13_method_71_code_c3 18 rfl rfl
theorem wp_md_want_d104 : decode prog_13_method_71_code 104 = .ok (.iastore, 1) := wt_op79 wb20m10_prog_13_method_71_code_c3 19 rfl rfl
theorem wp_md_want_d105 : decode prog_13_method_71_code 105 = .ok (.aload_n 0, 1) := wt_op42 wb20m10_prog_13_method_71_code_c3 20 rfl rfl
theorem wp_md_want_d106 : decode prog_13_method_71_code 106 = .ok (.getfield 94, 3) := wt_op180 wb20m10_prog_13_method_71_code_c3 21 rfl rfl rfl
theorem wp_md_want_d109 : decode prog_13_method_71_code 109 = .ok (.aload_n 0, 1) := wt_op42 wb20m10_prog_13_method_71_code_c3 24 rfl rfl
theorem wp_md_want_d110 : decode prog_13_method_71_code 110 = .ok (.getfield 268, 3) := wt_op180 wb20m10_prog_13_method_71_code_c3 25 rfl rfl rfl
theorem wp_md_want_d113 : decode prog_13_method_71_code 113 = .ok (.aaload, 1) := wt_op50 wb20m10_prog_13_method_71_code_c4 0 rfl rfl
theorem wp_md_want_d114 : decode prog_13_method_71_code 114 = .ok (.iconst 2, 1) := wt_op5 wb20m10_prog_13_method_71_code_c4 1 rfl rfl
theorem wp_md_want_d115 : decode prog_13_method_71_code 115 = .ok (.iload_n 3, 1) := wt_op29 wb20m10_prog_13_method_71_code_c4 2 rfl rfl
theorem wp_md_want_d116 : decode prog_13_method_71_code 116 = .ok (.iastore, 1) := wt_op79 wb20m10_prog_13_method_71_code_c4 3 rfl rfl
theorem wp_md_want_d117 : decode prog_13_method_71_code 117 = .ok (.aload_n 0, 1) := wt_op42 wb20m10_prog_13_method_71_code_c4 4 rfl rfl
theorem wp_md_want_d118 : decode prog_13_method_71_code 118 = .ok (.getfield 94, 3) := wt_op180 wb20m10_prog_13_method_71_code_c4 5 rfl rfl rfl
theorem wp_md_want_d121 : decode prog_13_method_71_code 121 = .ok (.aload_n 0, 1) := wt_op42 wb20m10_prog_13_method_71_code_c4 8 rfl rfl
theorem wp_md_want_d122 : decode prog_13_method_71_code 122 = .ok (.getfield 268, 3) := wt_op180 wb20m10_prog_13_method_71_code_c4 9 rfl rfl rfl
theorem wp_md_want_d125 : decode prog_13_method_71_code 125 = .ok (.aaload, 1) := wt_op50 wb20m10_prog_13_method_71_code_c4 12 rfl rfl
theorem wp_md_want_d126 : decode prog_13_method_71_code 126 = .ok (.iconst 3, 1) := wt_op6 wb20m10_prog_13_method_71_code_c4 13 rfl rfl
theorem wp_md_want_d127 : decode prog_13_method_71_code 127 = .ok (.iload 4, 2) := wt_op21 wb20m10_prog_13_method_71_code_c4 14 rfl rfl
theorem wp_md_want_d129 : decode prog_13_method_71_code 129 = .ok (.iastore, 1) := wt_op79 wb20m10_prog_13_method_71_code_c4 16 rfl rfl
theorem wp_md_want_d130 : decode prog_13_method_71_code 130 = .ok (.aload_n 0, 1) := wt_op42 wb20m10_prog_13_method_71_code_c4 17 rfl rfl
theorem wp_md_want_d131 : decode prog_13_method_71_code 131 = .ok (.dup, 1) := wt_op89 wb20m10_prog_13_method_71_code_c4 18 rfl rfl
theorem wp_md_want_d132 : decode prog_13_method_71_code 132 = .ok (.getfield 268, 3) := wt_op180 wb20m10_prog_13_method_71_code_c4 19 rfl rfl rfl
theorem wp_md_want_d135 : decode prog_13_method_71_code 135 = .ok (.iconst 1, 1) := wt_op4 wb20m10_prog_13_method_71_code_c4 22 rfl rfl
theorem wp_md_want_d136 : decode prog_13_method_71_code 136 = .ok (.iadd, 1) := wt_op96 wb20m10_prog_13_method_71_code_c4 23 rfl rfl
theorem wp_md_want_d137 : decode prog_13_method_71_code 137 = .ok (.putfield 268, 3) := wt_op181 wb20m10_prog_13_method_71_code_c4 24 rfl rfl rfl
theorem wp_md_want_d140 : decode prog_13_method_71_code 140 = .ok (.aload_n 0, 1) := wt_op42 wb20m10_prog_13_method_71_code_c4 27 rfl rfl
theorem wp_md_want_d141 : decode prog_13_method_71_code 141 = .ok (.getfield 268, 3) := wt_op180 wb20m10_prog_13_method_71_code_c5 0 rfl rfl rfl
theorem wp_md_want_d144 : decode prog_13_method_71_code 144 = .ok (.ireturn, 1) := wt_op172 wb20m10_prog_13_method_71_code_c5 3 rfl rfl
noncomputable def wp_md_want_B61 (n : Nat) (x1 : Int32) (x2 : Int32) (x3 : Int32) (x4 : Int32) (y1 : Int32) (σ : wt_St) : Option (Int32 × wt_St) :=
  (wp_md_bad n y1 (2 : Int32) σ).bind fun q7 =>
  if q7.1 = 0 then
    if (wt_gf q7.2 108 40) = (10 : Int32) then
      some ((-1 : Int32), q7.2)
    else
      if (wt_gf q7.2 108 40) < 0 ∨ 10 ≤ Int32.toNatClampNeg (wt_gf q7.2 108 40) then none else
      if (0 : Int32) < 0 ∨ 4 ≤ Int32.toNatClampNeg (0 : Int32) then none else
      if (wt_gf (wt_sa q7.2 (264 + Int32.toNatClampNeg (wt_gf q7.2 108 40)) (Int32.toNatClampNeg (0 : Int32)) x1) 108 40) < 0 ∨ 10 ≤ Int32.toNatClampNeg (wt_gf (wt_sa q7.2 (264 + Int32.toNatClampNeg (wt_gf q7.2 108 40)) (Int32.toNatClampNeg (0 : Int32)) x1) 108 40) then none else
      if (1 : Int32) < 0 ∨ 4 ≤ Int32.toNatClampNeg (1 : Int32) then none else
      if (wt_gf (wt_sa (wt_sa q7.2 (264 + Int32.toNatClampNeg (wt_gf q7.2 108 40)) (Int32.toNatClampNeg (0 : Int32)) x1) (264 + Int32.toNatClampNeg (wt_gf (wt_sa q7.2 (264 + Int32.toNatClampNeg (wt_gf q7.2 108 40)) (Int32.toNatClampNeg (0 : Int32)) x1) 108 40)) (Int32.toNatClampNeg (1 : Int32)) x2) 108 40) < 0 ∨ 10 ≤ Int32.toNatClampNeg (wt_gf (wt_sa (wt_sa q7.2 (264 + Int32.toNatClampNeg (wt_gf q7.2 108 40)) (Int32.toNatClampNeg (0 : Int32)) x1) (264 + Int32.toNatClampNeg (wt_gf (wt_sa q7.2 (264 + Int32.toNatClampNeg (wt_gf q7.2 108 40)) (Int32.toNatClampNeg (0 : Int32)) x1) 108 40)) (Int32.toNatClampNeg (1 : Int32)) x2) 108 40) then none else
      if (2 : Int32) < 0 ∨ 4 ≤ Int32.toNatClampNeg (2 : Int32) then none else
      if (wt_gf (wt_sa (wt_sa (wt_sa q7.2 (264 + Int32.toNatClampNeg (wt_gf q7.2 108 40)) (Int32.toNatClampNeg (0 : Int32)) x1) (264 + Int32.toNatClampNeg (wt_gf (wt_sa q7.2 (264 + Int32.toNatClampNeg (wt_gf q7.2 108 40)) (Int32.toNatClampNeg (0 : Int32)) x1) 108 40)) (Int32.toNatClampNeg (1 : Int32)) x2) (264 + Int32.toNatClampNeg (wt_gf (wt_sa (wt_sa q7.2 (264 + Int32.toNatClampNeg (wt_gf q7.2 108 40)) (Int32.toNatClampNeg (0 : Int32)) x1) (264 + Int32.toNatClampNeg (wt_gf (wt_sa q7.2 (264 + Int32.toNatClampNeg (wt_gf q7.2 108 40)) (Int32.toNatClampNeg (0 : Int32)) x1) 108 40)) (Int32.toNatClampNeg (1 : Int32)) x2) 108 40)) (Int32.toNatClampNeg (2 : Int32)) x3) 108 40) < 0 ∨ 10 ≤ Int32.toNatClampNeg (wt_gf (wt_sa (wt_sa (wt_sa q7.2 (264 + Int32.toNatClampNeg (wt_gf q7.2 108 40)) (Int32.toNatClampNeg (0 : Int32)) x1) (264 + Int32.toNatClampNeg (wt_gf (wt_sa q7.2 (264 + Int32.toNatClampNeg (wt_gf q7.2 108 40)) (Int32.toNatClampNeg (0 : Int32)) x1) 108 40)) (Int32.toNatClampNeg (1 : Int32)) x2) (264 + Int32.toNatClampNeg (wt_gf (wt_sa (wt_sa q7.2 (264 + Int32.toNatClampNeg (wt_gf q7.2 108 40)) (Int32.toNatClampNeg (0 : Int32)) x1) (264 + Int32.toNatClampNeg (wt_gf (wt_sa q7.2 (264 + Int32.toNatClampNeg (wt_gf q7.2 108 40)) (Int32.toNatClampNeg (0 : Int32)) x1) 108 40)) (Int32.toNatClampNeg (1 : Int32)) x2) 108 40)) (Int32.toNatClampNeg (2 : Int32)) x3) 108 40) then none else
      if (3 : Int32) < 0 ∨ 4 ≤ Int32.toNatClampNeg (3 : Int32) then none else
      some ((wt_gf (wt_sf (wt_sa (wt_sa (wt_sa (wt_sa q7.2 (264 + Int32.toNatClampNeg (wt_gf q7.2 108 40)) (Int32.toNatClampNeg (0 : Int32)) x1) (264 + Int32.toNatClampNeg (wt_gf (wt_sa q7.2 (264 + Int32.toNatClampNeg (wt_gf q7.2 108 40)) (Int32.toNatClampNeg (0 : Int32)) x1) 108 40)) (Int32.toNatClampNeg (1 : Int32)) x2) (264 + Int32.toNatClampNeg (wt_gf (wt_sa (wt_sa q7.2 (264 + Int32.toNatClampNeg (wt_gf q7.2 108 40)) (Int32.toNatClampNeg (0 : Int32)) x1) (264 + Int32.toNatClampNeg (wt_gf (wt_sa q7.2 (264 + Int32.toNatClampNeg (wt_gf q7.2 108 40)) (Int32.toNatClampNeg (0 : Int32)) x1) 108 40)) (Int32.toNatClampNeg (1 : Int32)) x2) 108 40)) (Int32.toNatClampNeg (2 : Int32)) x3) (264 + Int32.toNatClampNeg (wt_gf (wt_sa (wt_sa (wt_sa q7.2 (264 + Int32.toNatClampNeg (wt_gf q7.2 108 40)) (Int32.toNatClampNeg (0 : Int32)) x1) (264 + Int32.toNatClampNeg (wt_gf (wt_sa q7.2 (264 + Int32.toNatClampNeg (wt_gf q7.2 108 40)) (Int32.toNatClampNeg (0 : Int32)) x1) 108 40)) (Int32.toNatClampNeg (1 : Int32)) x2) (264 + Int32.toNatClampNeg (wt_gf (wt_sa (wt_sa q7.2 (264 + Int32.toNatClampNeg (wt_gf q7.2 108 40)) (Int32.toNatClampNeg (0 : Int32)) x1) (264 + Int32.toNatClampNeg (wt_gf (wt_sa q7.2 (264 + Int32.toNatClampNeg (wt_gf q7.2 108 40)) (Int32.toNatClampNeg (0 : Int32)) x1) 108 40)) (Int32.toNatClampNeg (1 : Int32)) x2) 108 40)) (Int32.toNatClampNeg (2 : Int32)) x3) 108 40)) (Int32.toNatClampNeg (3 : Int32)) x4) 108 40 ((wt_gf (wt_sa (wt_sa (wt_sa (wt_sa q7.2 (264 + Int32.toNatClampNeg (wt_gf q7.2 108 40)) (Int32.toNatClampNeg (0 : Int32)) x1) (264 + Int32.toNatClampNeg (wt_gf (wt_sa q7.2 (264 + Int32.toNatClampNeg (wt_gf q7.2 108 40)) (Int32.toNatClampNeg (0 : Int32)) x1) 108 40)) (Int32.toNatClampNeg (1 : Int32)) x2) (264 + Int32.toNatClampNeg (wt_gf (wt_sa (wt_sa q7.2 (264 + Int32.toNatClampNeg (wt_gf q7.2 108 40)) (Int32.toNatClampNeg (0 : Int32)) x1) (264 + Int32.toNatClampNeg (wt_gf (wt_sa q7.2 (264 + Int32.toNatClampNeg (wt_gf q7.2 108 40)) (Int32.toNatClampNeg (0 : Int32)) x1) 108 40)) (Int32.toNatClampNeg (1 : Int32)) x2) 108 40)) (Int32.toNatClampNeg (2 : Int32)) x3) (264 + Int32.toNatClampNeg (wt_gf (wt_sa (wt_sa (wt_sa q7.2 (264 + Int32.toNatClampNeg (wt_gf q7.2 108 40)) (Int32.toNatClampNeg (0 : Int32)) x1) (264 + Int32.toNatClampNeg (wt_gf (wt_sa q7.2 (264 + Int32.toNatClampNeg (wt_gf q7.2 108 40)) (Int32.toNatClampNeg (0 : Int32)) x1) 108 40)) (Int32.toNatClampNeg (1 : Int32)) x2) (264 + Int32.toNatClampNeg (wt_gf (wt_sa (wt_sa q7.2 (264 + Int32.toNatClampNeg (wt_gf q7.2 108 40)) (Int32.toNatClampNeg (0 : Int32)) x1) (264 + Int32.toNatClampNeg (wt_gf (wt_sa q7.2 (264 + Int32.toNatClampNeg (wt_gf q7.2 108 40)) (Int32.toNatClampNeg (0 : Int32)) x1) 108 40)) (Int32.toNatClampNeg (1 : Int32)) x2) 108 40)) (Int32.toNatClampNeg (2 : Int32)) x3) 108 40)) (Int32.toNatClampNeg (3 : Int32)) x4) 108 40) + (1 : Int32))) 108 40), (wt_sf (wt_sa (wt_sa (wt_sa (wt_sa q7.2 (264 + Int32.toNatClampNeg (wt_gf q7.2 108 40)) (Int32.toNatClampNeg (0 : Int32)) x1) (264 + Int32.toNatClampNeg (wt_gf (wt_sa q7.2 (264 + Int32.toNatClampNeg (wt_gf q7.2 108 40)) (Int32.toNatClampNeg (0 : Int32)) x1) 108 40)) (Int32.toNatClampNeg (1 : Int32)) x2) (264 + Int32.toNatClampNeg (wt_gf (wt_sa (wt_sa q7.2 (264 + Int32.toNatClampNeg (wt_gf q7.2 108 40)) (Int32.toNatClampNeg (0 : Int32)) x1) (264 + Int32.toNatClampNeg (wt_gf (wt_sa q7.2 (264 + Int32.toNatClampNeg (wt_gf q7.2 108 40)) (Int32.toNatClampNeg (0 : Int32)) x1) 108 40)) (Int32.toNatClampNeg (1 : Int32)) x2) 108 40)) (Int32.toNatClampNeg (2 : Int32)) x3) (264 + Int32.toNatClampNeg (wt_gf (wt_sa (wt_sa (wt_sa q7.2 (264 + Int32.toNatClampNeg (wt_gf q7.2 108 40)) (Int32.toNatClampNeg (0 : Int32)) x1) (264 + Int32.toNatClampNeg (wt_gf (wt_sa q7.2 (264 + Int32.toNatClampNeg (wt_gf q7.2 108 40)) (Int32.toNatClampNeg (0 : Int32)) x1) 108 40)) (Int32.toNatClampNeg (1 : Int32)) x2) (264 + Int32.toNatClampNeg (wt_gf (wt_sa (wt_sa q7.2 (264 + Int32.toNatClampNeg (wt_gf q7.2 108 40)) (Int32.toNatClampNeg (0 : Int32)) x1) (264 + Int32.toNatClampNeg (wt_gf (wt_sa q7.2 (264 + Int32.toNatClampNeg (wt_gf q7.2 108 40)) (Int32.toNatClampNeg (0 : Int32)) x1) 108 40)) (Int32.toNatClampNeg (1 : Int32)) x2) 108 40)) (Int32.toNatClampNeg (2 : Int32)) x3) 108 40)) (Int32.toNatClampNeg (3 : Int32)) x4) 108 40 ((wt_gf (wt_sa (wt_sa (wt_sa (wt_sa q7.2 (264 + Int32.toNatClampNeg (wt_gf q7.2 108 40)) (Int32.toNatClampNeg (0 : Int32)) x1) (264 + Int32.toNatClampNeg (wt_gf (wt_sa q7.2 (264 + Int32.toNatClampNeg (wt_gf q7.2 108 40)) (Int32.toNatClampNeg (0 : Int32)) x1) 108 40)) (Int32.toNatClampNeg (1 : Int32)) x2) (264 + Int32.toNatClampNeg (wt_gf (wt_sa (wt_sa q7.2 (264 + Int32.toNatClampNeg (wt_gf q7.2 108 40)) (Int32.toNatClampNeg (0 : Int32)) x1) (264 + Int32.toNatClampNeg (wt_gf (wt_sa q7.2 (264 + Int32.toNatClampNeg (wt_gf q7.2 108 40)) (Int32.toNatClampNeg (0 : Int32)) x1) 108 40)) (Int32.toNatClampNeg (1 : Int32)) x2) 108 40)) (Int32.toNatClampNeg (2 : Int32)) x3) (264 + Int32.toNatClampNeg (wt_gf (wt_sa (wt_sa (wt_sa q7.2 (264 + Int32.toNatClampNeg (wt_gf q7.2 108 40)) (Int32.toNatClampNeg (0 : Int32)) x1) (264 + Int32.toNatClampNeg (wt_gf (wt_sa q7.2 (264 + Int32.toNatClampNeg (wt_gf q7.2 108 40)) (Int32.toNatClampNeg (0 : Int32)) x1) 108 40)) (Int32.toNatClampNeg (1 : Int32)) x2) (264 + Int32.toNatClampNeg (wt_gf (wt_sa (wt_sa q7.2 (264 + Int32.toNatClampNeg (wt_gf q7.2 108 40)) (Int32.toNatClampNeg (0 : Int32)) x1) (264 + Int32.toNatClampNeg (wt_gf (wt_sa q7.2 (264 + Int32.toNatClampNeg (wt_gf q7.2 108 40)) (Int32.toNatClampNeg (0 : Int32)) x1) 108 40)) (Int32.toNatClampNeg (1 : Int32)) x2) 108 40)) (Int32.toNatClampNeg (2 : Int32)) x3) 108 40)) (Int32.toNatClampNeg (3 : Int32)) x4) 108 40) + (1 : Int32))))
  else
    some ((0 : Int32), q7.2)
set_option maxRecDepth 100000 in
set_option maxHeartbeats 4000000 in
theorem wp_md_want_B61_ok  {x1 : Int32} {x2 : Int32} {x3 : Int32} {x4 : Int32} {X : wt_X} {n : Nat} {res : Int32 × wt_St} (hE : wt_Ok X prog_13_method_71_code 5 "WornTypeModel" 2 0) (hR : wt_Rt X (some .int) (some res.1) res.2) (hD : ∀ i, 108 ≤ i → i < 321 → wt_dom (wt_xw X) i)  {σ : wt_St} {y1 : Int32} (h : wp_md_want_B61 n x1 x2 x3 x4 y1 σ = some res) : wt_V X 0 σ 61 [some (.ref (wt_ad (wt_xw X) 108)), some (.int x1), some (.int x2), some (.int x3), some (.int x4)] [.int y1, .ref (wt_ad (wt_xw X) 108)] := by
  unfold wp_md_want_B61 at h
  refine wt_iconst hE (2 : Int32) wp_md_want_d61 wt_ci_2 ?_
  obtain ⟨q7, hq7, h⟩ := wt_bi h
  refine wt_callVi hE [.int y1, .int (2 : Int32)] wt_lm_md_230 wt_ya_md_bad (wp_md_bad_ok hD hq7) (by omega) (hD 108 (by decide) (by decide)) wt_L108 rfl rfl rfl (Nat.le_of_ble_eq_true rfl) (Nat.zero_le _) wp_md_want_d62 (fun hbq7 => ?_)
  refine wt_if_eq hE 70 wp_md_want_d65 rfl (fun c8 => ?_) (fun c8 => ?_)
  · have h := wt_ip c8 h
    refine wt_aload_n hE wp_md_want_d70 rfl ?_
    refine wt_geti hE wt_lf_md_268 (hD 108 (by decide) (by decide)) wt_L108 rfl wp_md_want_d71 ?_
    refine wt_bipush hE (10 : Int32) wp_md_want_d74 wt_cb_10 ?_
    refine wt_icmp_ne hE 81 wp_md_want_d76 rfl (fun c9 => ?_) (fun c9 => ?_)
    · have h := wt_in c9 h
      refine wt_aload_n hE wp_md_want_d81 rfl ?_
      refine wt_getr hE (r := 263) wt_lf_md_94 (hD 108 (by decide) (by decide)) wt_L108 rfl wp_md_want_d82 ?_
      refine wt_aload_n hE wp_md_want_d85 rfl ?_
      refine wt_geti hE wt_lf_md_268 (hD 108 (by decide) (by decide)) wt_L108 rfl wp_md_want_d86 ?_
      obtain ⟨g10, h⟩ := wt_gd h
      have lg10 := wt_lt g10
      refine wt_aald1 hE (hD 263 (by decide) (by decide)) wt_L263 g10 wp_md_want_d89 ?_
      refine wt_iconst hE (0 : Int32) wp_md_want_d90 wt_ci_0 ?_
      refine wt_iload_n hE wp_md_want_d91 rfl ?_
      obtain ⟨g11, h⟩ := wt_gd h
      refine wt_iast hE (hD _ (by omega) (by omega)) (wt_G264 _ lg10) g11 wp_md_want_d92 ?_
      refine wt_aload_n hE wp_md_want_d93 rfl ?_
      refine wt_getr hE (r := 263) wt_lf_md_94 (hD 108 (by decide) (by decide)) wt_L108 rfl wp_md_want_d94 ?_
      refine wt_aload_n hE wp_md_want_d97 rfl ?_
      refine wt_geti hE wt_lf_md_268 (hD 108 (by decide) (by decide)) wt_L108 rfl wp_md_want_d98 ?_
      obtain ⟨g12, h⟩ := wt_gd h
      have lg12 := wt_lt g12
      refine wt_aald1 hE (hD 263 (by decide) (by decide)) wt_L263 g12 wp_md_want_d101 ?_
      refine wt_iconst hE (1 : Int32) wp_md_want_d102 wt_ci_1 ?_
      refine wt_iload_n hE wp_md_want_d103 rfl ?_
      obtain ⟨g13, h⟩ := wt_gd h
      refine wt_iast hE (hD _ (by omega) (by omega)) (wt_G264 _ lg12) g13 wp_md_want_d104 ?_
      refine wt_aload_n hE wp_md_want_d105 rfl ?_
      refine wt_getr hE (r := 263) wt_lf_md_94 (hD 108 (by decide) (by decide)) wt_L108 rfl wp_md_want_d106 ?_
      refine wt_aload_n hE wp_md_want_d109 rfl ?_
      refine wt_geti hE wt_lf_md_268 (hD 108 (by decide) (by decide)) wt_L108 rfl wp_md_want_d110 ?_
      obtain ⟨g14, h⟩ := wt_gd h
      have lg14 := wt_lt g14
      refine wt_aald1 hE (hD 263 (by decide) (by decide)) wt_L263 g14 wp_md_want_d113 ?_
      refine wt_iconst hE (2 : Int32) wp_md_want_d114 wt_ci_2 ?_
      refine wt_iload_n hE wp_md_want_d115 rfl ?_
      obtain ⟨g15, h⟩ := wt_gd h
      refine wt_iast hE (hD _ (by omega) (by omega)) (wt_G264 _ lg14) g15 wp_md_want_d116 ?_
      refine wt_aload_n hE wp_md_want_d117 rfl ?_
      refine wt_getr hE (r := 263) wt_lf_md_94 (hD 108 (by decide) (by decide)) wt_L108 rfl wp_md_want_d118 ?_
      refine wt_aload_n hE wp_md_want_d121 rfl ?_
      refine wt_geti hE wt_lf_md_268 (hD 108 (by decide) (by decide)) wt_L108 rfl wp_md_want_d122 ?_
      obtain ⟨g16, h⟩ := wt_gd h
      have lg16 := wt_lt g16
      refine wt_aald1 hE (hD 263 (by decide) (by decide)) wt_L263 g16 wp_md_want_d125 ?_
      refine wt_iconst hE (3 : Int32) wp_md_want_d126 wt_ci_3 ?_
      refine wt_iload hE wp_md_want_d127 rfl ?_
      obtain ⟨g17, h⟩ := wt_gd h
      refine wt_iast hE (hD _ (by omega) (by omega)) (wt_G264 _ lg16) g17 wp_md_want_d129 ?_
      refine wt_aload_n hE wp_md_want_d130 rfl ?_
      refine wt_dup hE wp_md_want_d131 rfl ?_
      refine wt_geti hE wt_lf_md_268 (hD 108 (by decide) (by decide)) wt_L108 rfl wp_md_want_d132 ?_
      refine wt_iconst hE (1 : Int32) wp_md_want_d135 wt_ci_1 ?_
      refine wt_iadd hE wp_md_want_d136 ?_
      refine wt_puti hE wt_lf_md_268 (hD 108 (by decide) (by decide)) wt_L108 rfl (fun q hq => by cases hq; rfl) wp_md_want_d137 ?_
      refine wt_aload_n hE wp_md_want_d140 rfl ?_
      refine wt_geti hE wt_lf_md_268 (hD 108 (by decide) (by decide)) wt_L108 rfl wp_md_want_d141 ?_
      cases h
      exact wt_iret hE hR wp_md_want_d144
    · have h := wt_ip c9 h
      refine wt_iconst hE (-1 : Int32) wp_md_want_d79 wt_ci_m1 ?_
      cases h
      exact wt_iret hE hR wp_md_want_d80
  · have h := wt_in c8 h
    refine wt_iconst hE (0 : Int32) wp_md_want_d68 wt_ci_0 ?_
    cases h
    exact wt_iret hE hR wp_md_want_d69
noncomputable def wp_md_want_B56 (n : Nat) (x1 : Int32) (x2 : Int32) (x3 : Int32) (x4 : Int32) (σ : wt_St) : Option (Int32 × wt_St) :=
  wp_md_want_B61 n x1 x2 x3 x4 (1 : Int32) σ
set_option maxRecDepth 100000 in
set_option maxHeartbeats 4000000 in
theorem wp_md_want_B56_ok  {x1 : Int32} {x2 : Int32} {x3 : Int32} {x4 : Int32} {X : wt_X} {n : Nat} {res : Int32 × wt_St} (hE : wt_Ok X prog_13_method_71_code 5 "WornTypeModel" 2 0) (hR : wt_Rt X (some .int) (some res.1) res.2) (hD : ∀ i, 108 ≤ i → i < 321 → wt_dom (wt_xw X) i)  {σ : wt_St} (h : wp_md_want_B56 n x1 x2 x3 x4 σ = some res) : wt_V X 0 σ 56 [some (.ref (wt_ad (wt_xw X) 108)), some (.int x1), some (.int x2), some (.int x3), some (.int x4)] [.ref (wt_ad (wt_xw X) 108)] := by
  unfold wp_md_want_B56 at h
  refine wt_iconst hE (1 : Int32) wp_md_want_d56 wt_ci_1 ?_
  refine wt_goto hE 61 wp_md_want_d57 rfl ?_
  exact wp_md_want_B61_ok hE hR hD h
noncomputable def wp_md_want_B19 (n : Nat) (x1 : Int32) (x2 : Int32) (x3 : Int32) (x4 : Int32) (y1 : Int32) (σ : wt_St) : Option (Int32 × wt_St) :=
  (wp_md_bad n y1 (1 : Int32) σ).bind fun q3 =>
  if q3.1 = 0 then
    (wp_md_isCopies n x2 q3.2).bind fun q5 =>
    if q5.1 = 0 then
      wp_md_want_B56 n x1 x2 x3 x4 q5.2
    else
      (wp_md_in n x3 (0 : Int32) (99 : Int32) q5.2).bind fun q18 =>
      if q18.1 = 0 then
        wp_md_want_B56 n x1 x2 x3 x4 q18.2
      else
        (wp_md_in n x4 (1 : Int32) (999 : Int32) q18.2).bind fun q20 =>
        if q20.1 = 0 then
          wp_md_want_B56 n x1 x2 x3 x4 q20.2
        else
          wp_md_want_B61 n x1 x2 x3 x4 (0 : Int32) q20.2
  else
    some ((0 : Int32), q3.2)
set_option maxRecDepth 100000 in
set_option maxHeartbeats 4000000 in
theorem wp_md_want_B19_ok  {x1 : Int32} {x2 : Int32} {x3 : Int32} {x4 : Int32} {X : wt_X} {n : Nat} {res : Int32 × wt_St} (hE : wt_Ok X prog_13_method_71_code 5 "WornTypeModel" 2 0) (hR : wt_Rt X (some .int) (some res.1) res.2) (hD : ∀ i, 108 ≤ i → i < 321 → wt_dom (wt_xw X) i)  {σ : wt_St} {y1 : Int32} (h : wp_md_want_B19 n x1 x2 x3 x4 y1 σ = some res) : wt_V X 0 σ 19 [some (.ref (wt_ad (wt_xw X) 108)), some (.int x1), some (.int x2), some (.int x3), some (.int x4)] [.int y1, .ref (wt_ad (wt_xw X) 108)] := by
  unfold wp_md_want_B19 at h
  refine wt_iconst hE (1 : Int32) wp_md_want_d19 wt_ci_1 ?_
  obtain ⟨q3, hq3, h⟩ := wt_bi h
  refine wt_callVi hE [.int y1, .int (1 : Int32)] wt_lm_md_230 wt_ya_md_bad (wp_md_bad_ok hD hq3) (by omega) (hD 108 (by decide) (by decide)) wt_L108 rfl rfl rfl (Nat.le_of_ble_eq_true rfl) (Nat.zero_le _) wp_md_want_d20 (fun hbq3 => ?_)
  refine wt_if_ne hE 68 wp_md_want_d23 rfl (fun c4 => ?_) (fun c4 => ?_)
  · have h := wt_in c4 h
    refine wt_iconst hE (0 : Int32) wp_md_want_d68 wt_ci_0 ?_
    cases h
    exact wt_iret hE hR wp_md_want_d69
  · have h := wt_ip c4 h
    refine wt_aload_n hE wp_md_want_d26 rfl ?_
    refine wt_iload_n hE wp_md_want_d27 rfl ?_
    obtain ⟨q5, hq5, h⟩ := wt_bi h
    refine wt_callSi hE [.int x2] wt_lm_md_313 wt_ya_md_isCopies (wp_md_isCopies_ok hq5) (by omega) rfl rfl (Nat.le_of_ble_eq_true rfl) (Nat.zero_le _) wp_md_want_d28 (fun hbq5 => ?_)
    refine wt_if_eq hE 56 wp_md_want_d31 rfl (fun c6 => ?_) (fun c6 => ?_)
    · have h := wt_ip c6 h
      exact wp_md_want_B56_ok hE hR hD h
    · have h := wt_in c6 h
      refine wt_iload_n hE wp_md_want_d34 rfl ?_
      refine wt_iconst hE (0 : Int32) wp_md_want_d35 wt_ci_0 ?_
      refine wt_bipush hE (99 : Int32) wp_md_want_d36 wt_cb_99 ?_
      obtain ⟨q18, hq18, h⟩ := wt_bi h
      refine wt_callSi hE [.int x3, .int (0 : Int32), .int (99 : Int32)] wt_lm_md_185 wt_ya_md_in (wp_md_in_ok hq18) (by omega) rfl rfl (Nat.le_of_ble_eq_true rfl) (Nat.zero_le _) wp_md_want_d38 (fun hbq18 => ?_)
      refine wt_if_eq hE 56 wp_md_want_d41 rfl (fun c19 => ?_) (fun c19 => ?_)
      · have h := wt_ip c19 h
        exact wp_md_want_B56_ok hE hR hD h
      · have h := wt_in c19 h
        refine wt_iload hE wp_md_want_d44 rfl ?_
        refine wt_iconst hE (1 : Int32) wp_md_want_d46 wt_ci_1 ?_
        refine wt_sipush hE (999 : Int32) wp_md_want_d47 wt_cs_999 ?_
        obtain ⟨q20, hq20, h⟩ := wt_bi h
        refine wt_callSi hE [.int x4, .int (1 : Int32), .int (999 : Int32)] wt_lm_md_185 wt_ya_md_in (wp_md_in_ok hq20) (by omega) rfl rfl (Nat.le_of_ble_eq_true rfl) (Nat.zero_le _) wp_md_want_d50 (fun hbq20 => ?_)
        refine wt_if_ne hE 60 wp_md_want_d53 rfl (fun c21 => ?_) (fun c21 => ?_)
        · have h := wt_in c21 h
          refine wt_iconst hE (0 : Int32) wp_md_want_d60 wt_ci_0 ?_
          exact wp_md_want_B61_ok hE hR hD h
        · have h := wt_ip c21 h
          exact wp_md_want_B56_ok hE hR hD h
noncomputable def wp_md_want (n : Nat) (x1 : Int32) (x2 : Int32) (x3 : Int32) (x4 : Int32) (σ : wt_St) : Option (Int32 × wt_St) :=
  (wp_md_isText n x1 (wt_sf σ 108 0 (0 : Int32))).bind fun q1 =>
  if q1.1 = 0 then
    wp_md_want_B19 n x1 x2 x3 x4 (1 : Int32) q1.2
  else
    wp_md_want_B19 n x1 x2 x3 x4 (0 : Int32) q1.2
set_option maxRecDepth 100000 in
set_option maxHeartbeats 4000000 in
theorem wp_md_want_ok {l : Launch} {w : wt_E} {n : Nat} {x1 : Int32} {x2 : Int32} {x3 : Int32} {x4 : Int32} (hD : ∀ i, 108 ≤ i → i < 321 → wt_dom w i) {σ : wt_St} {q : Int32 × wt_St} (h : wp_md_want n x1 x2 x3 x4 σ = some q) : wt_Ctr l w wt_y_md_want prog_13_method_71_code 5 (some .int) 2 [.ref (wt_ad w 108), .int x1, .int x2, .int x3, .int x4] σ (some q.1) q.2 := by
  refine wt_ctr wt_pl_md_want rfl (Nat.le_of_ble_eq_true rfl) [some (.ref (wt_ad w 108)), some (.int x1), some (.int x2), some (.int x3), some (.int x4)] rfl ?_
  intro X hXl hXw hE hR
  subst hXl
  subst hXw
  have hE : wt_Ok X prog_13_method_71_code 5 "WornTypeModel" 2 0 := hE
  unfold wp_md_want at h
  refine wt_aload_n hE wp_md_want_d0 rfl ?_
  refine wt_iconst hE (0 : Int32) wp_md_want_d1 wt_ci_0 ?_
  refine wt_puti hE wt_lf_md_151 (hD 108 (by decide) (by decide)) wt_L108 rfl (fun q hq => by cases hq; rfl) wp_md_want_d2 ?_
  refine wt_aload_n hE wp_md_want_d5 rfl ?_
  refine wt_aload_n hE wp_md_want_d6 rfl ?_
  refine wt_iload_n hE wp_md_want_d7 rfl ?_
  obtain ⟨q1, hq1, h⟩ := wt_bi h
  refine wt_callVi hE [.int x1] wt_lm_md_307 wt_ya_md_isText (wp_md_isText_ok hD hq1) (by omega) (hD 108 (by decide) (by decide)) wt_L108 rfl rfl rfl (Nat.le_of_ble_eq_true rfl) (Nat.zero_le _) wp_md_want_d8 (fun hbq1 => ?_)
  refine wt_if_ne hE 18 wp_md_want_d11 rfl (fun c2 => ?_) (fun c2 => ?_)
  · have h := wt_in c2 h
    refine wt_iconst hE (0 : Int32) wp_md_want_d18 wt_ci_0 ?_
    exact wp_md_want_B19_ok hE hR hD h
  · have h := wt_ip c2 h
    refine wt_iconst hE (1 : Int32) wp_md_want_d14 wt_ci_1 ?_
    refine wt_goto hE 19 wp_md_want_d15 rfl ?_
    exact wp_md_want_B19_ok hE hR hD h
def wb20m10_prog_13_method_44_code_r3 : List (List Nat) := [27, 46, 167, 0, 21, 28, 6, 160, 0, 11, 42, 27, 182, 1, 45, 167, 0, 8, 42, 27, 182, 1, 48, 172] :: []
def wb20m10_prog_13_method_44_code_r2 : List (List Nat) := [27, 46, 167, 0, 49, 28, 4, 160, 0, 12, 42, 180, 0, 71, 27, 46, 167, 0, 35, 28, 5, 160, 0, 12, 42, 180, 0, 77] :: wb20m10_prog_13_method_44_code_r3
def wb20m10_prog_13_method_44_code_r1 : List (List Nat) := [3, 7, 184, 0, 185, 154, 0, 7, 4, 167, 0, 4, 3, 5, 182, 0, 230, 153, 0, 5, 3, 172, 28, 154, 0, 12, 42, 180, 0, 65] :: wb20m10_prog_13_method_44_code_r2
def wb20m10_prog_13_method_44_code_r0 : List (List Nat) := [42, 3, 181, 0, 151, 42, 42, 27, 182, 1, 42, 154, 0, 7, 4, 167, 0, 4, 3, 4, 182, 0, 230, 154, 0, 25, 42, 28] :: wb20m10_prog_13_method_44_code_r1
set_option maxRecDepth 100000 in
theorem wb20m10_prog_13_method_44_code_c0 : wt_cs prog_13_method_44_code 0 wb20m10_prog_13_method_44_code_r0 := wt_cs_of (by decide +kernel)
theorem wb20m10_prog_13_method_44_code_c1 : wt_cs prog_13_method_44_code 28 wb20m10_prog_13_method_44_code_r1 := wt_cs_tl (m := 28) wb20m10_prog_13_method_44_code_c0 rfl rfl
theorem wb20m10_prog_13_method_44_code_c2 : wt_cs prog_13_method_44_code 58 wb20m10_prog_13_method_44_code_r2 := wt_cs_tl (m := 30) wb20m10_prog_13_method_44_code_c1 rfl rfl
theorem wb20m10_prog_13_method_44_code_c3 : wt_cs prog_13_method_44_code 86 wb20m10_prog_13_method_44_code_r3 := wt_cs_tl (m := 28) wb20m10_prog_13_method_44_code_c2 rfl rfl
theorem wp_md_word_d0 : decode prog_13_method_44_code 0 = .ok (.aload_n 0, 1) := wt_op42 wb20m10_prog_13_method_44_code_c0 0 rfl rfl
theorem wp_md_word_d1 : decode prog_13_method_44_code 1 = .ok (.iconst 0, 1) := wt_op3 wb20m10_prog_13_method_44_code_c0 1 rfl rfl
theorem wp_md_word_d2 : decode prog_13_method_44_code 2 = .ok (.putfield 151, 3) := wt_op181 wb20m10_prog_13_method_44_code_c0 2 rfl rfl rfl
theorem wp_md_word_d5 : decode prog_13_method_44_code 5 = .ok (.aload_n 0, 1) := wt_op42 wb20m10_prog_13_method_44_code_c0 5 rfl rfl
theorem wp_md_word_d6 : decode prog_13_method_44_code 6 = .ok (.aload_n 0, 1) := wt_op42 wb20m10_prog_13_method_44_code_c0 6 rfl rfl
theorem wp_md_word_d7 : decode prog_13_method_44_code 7 = .ok (.iload_n 1, 1) := wt_op27 wb20m10_prog_13_method_44_code_c0 7 rfl rfl
theorem wp_md_word_d8 : decode prog_13_method_44_code 8 = .ok (.invokevirtual 298, 3) := wt_op182 wb20m10_prog_13_method_44_code_c0 8 rfl rfl rfl
theorem wp_md_word_d11 : decode prog_13_method_44_code 11 = .ok (.ifCond .ne 7, 3) := wt_op154 wb20m10_prog_13_method_44_code_c0 11 rfl rfl rfl
theorem wp_md_word_d14 : decode prog_13_method_44_code 14 = .ok (.iconst 1, 1) := wt_op4 wb20m10_prog_13_method_44_code_c0 14 rfl rfl
theorem wp_md_word_d15 : decode prog_13_method_44_code 15 = .ok (.goto 4, 3) := wt_op167 wb20m10_prog_13_method_44_code_c0 15 rfl rfl rfl
theorem wp_md_word_d18 : decode prog_13_method_44_code 18 = .ok (.iconst 0, 1) := wt_op3 wb20m10_prog_13_method_44_code_c0 18 rfl rfl
theorem wp_md_word_d19 : decode prog_13_method_44_code 19 = .ok (.iconst 1, 1) := wt_op4 wb20m10_prog_13_method_44_code_c0 19 rfl rfl
theorem wp_md_word_d20 : decode prog_13_method_44_code 20 = .ok (.invokevirtual 230, 3) := wt_op182 wb20m10_prog_13_method_44_code_c0 20 rfl rfl rfl
theorem wp_md_word_d23 : decode prog_13_method_44_code 23 = .ok (.ifCond .ne 25, 3) := wt_op154 wb20m10_prog_13_method_44_code_c0 23 rfl rfl rfl
theorem wp_md_word_d26 : decode prog_13_method_44_code 26 = .ok (.aload_n 0, 1) := wt_op42 wb20m10_prog_13_method_44_code_c0 26 rfl rfl
theorem wp_md_word_d27 : decode prog_13_method_44_code 27 = .ok (.iload_n 2, 1) := wt_op28 wb20m10_prog_13_method_44_code_c0 27 rfl rfl
theorem wp_md_word_d28 : decode prog_13_method_44_code 28 = .ok (.iconst 0, 1) := wt_op3 wb20m10_prog_13_method_44_code_c1 0 rfl rfl
theorem wp_md_word_d29 : decode prog_13_method_44_code 29 = .ok (.iconst 4, 1) := wt_op7 wb20m10_prog_13_method_44_code_c1 1 rfl rfl
theorem wp_md_word_d30 : decode prog_13_method_44_code 30 = .ok (.invokestatic 185, 3) := wt_op184 wb20m10_prog_13_method_44_code_c1 2 rfl rfl rfl
theorem wp_md_word_d33 : decode prog_13_method_44_code 33 = .ok (.ifCond .ne 7, 3) := wt_op154 wb20m10_prog_13_method_44_code_c1 5 rfl rfl rfl
theorem wp_md_word_d36 : decode prog_13_method_44_code 36 = .ok (.iconst 1, 1) := wt_op4 wb20m10_prog_13_method_44_code_c1 8 rfl rfl
theorem wp_md_word_d37 : decode prog_13_method_44_code 37 = .ok (.goto 4, 3) := wt_op167 wb20m10_prog_13_method_44_code_c1 9 rfl rfl rfl
theorem wp_md_word_d40 : decode prog_13_method_44_code 40 = .ok (.iconst 0, 1) := wt_op3 wb20m10_prog_13_method_44_code_c1 12 rfl rfl
theorem wp_md_word_d41 : decode prog_13_method_44_code 41 = .ok (.iconst 2, 1) := wt_op5 wb20m10_prog_13_method_44_code_c1 13 rfl rfl
theorem wp_md_word_d42 : decode prog_13_method_44_code 42 = .ok (.invokevirtual 230, 3) := wt_op182 wb20m10_prog_13_method_44_code_c1 14 rfl rfl rfl
theorem wp_md_word_d45 : decode prog_13_method_44_code 45 = .ok (.ifCond .eq 5, 3) := wt_op153 wb20m10_prog_13_method_44_code_c1 17 rfl rfl rfl
theorem wp_md_word_d48 : decode prog_13_method_44_code 48 = .ok (.iconst 0, 1) := wt_op3 wb20m10_prog_13_method_44_code_c1 20 rfl rfl
theorem wp_md_word_d49 : decode prog_13_method_44_code 49 = .ok (.ireturn, 1) := wt_op172 wb20m10_prog_13_method_44_code_c1 21 rfl rfl
theorem wp_md_word_d50 : decode prog_13_method_44_code 50 = .ok (.iload_n 2, 1) := wt_op28 wb20m10_prog_13_method_44_code_c1 22 rfl rfl
theorem wp_md_word_d51 : decode prog_13_method_44_code 51 = .ok (.ifCond .ne 12, 3) := wt_op154 wb20m10_prog_13_method_44_code_c1 23 rfl rfl rfl
theorem wp_md_word_d54 : decode prog_13_method_44_code 54 = .ok (.aload_n 0, 1) := wt_op42 wb20m10_prog_13_method_44_code_c1 26 rfl rfl
theorem wp_md_word_d55 : decode prog_13_method_44_code 55 = .ok (.getfield 65, 3) := wt_op180 wb20m10_prog_13_method_44_code_c1 27 rfl rfl rfl
theorem wp_md_word_d58 : decode prog_13_method_44_code 58 = .ok (.iload_n 1, 1) := wt_op27 wb20m10_prog_13_method_44_code_c2 0 rfl rfl
theorem wp_md_word_d59 : decode prog_13_method_44_code 59 = .ok (.iaload, 1) := wt_op46 wb20m10_prog_13_method_44_code_c2 1 rfl rfl
theorem wp_md_word_d60 : decode prog_13_method_44_code 60 = .ok (.goto 49, 3) := wt_op167 wb20m10_prog_13_method_44_code_c2 2 rfl rfl rfl
theorem wp_md_word_d63 : decode prog_13_method_44_code 63 = .ok (.iload_n 2, 1) := wt_op28 wb20m10_prog_13_method_44_code_c2 5 rfl rfl
theorem wp_md_word_d64 : decode prog_13_method_44_code 64 = .ok (.iconst 1, 1) := wt_op4 wb20m10_prog_13_method_44_code_c2 6 rfl rfl
theorem wp_md_word_d65 : decode prog_13_method_44_code 65 = .ok (.if_icmp .ne 12, 3) := wt_op160 wb20m10_prog_13_method_44_code_c2 7 rfl rfl rfl
theorem wp_md_word_d68 : decode prog_13_method_44_code 68 = .ok (.aload_n 0, 1) := wt_op42 wb20m10_prog_13_method_44_code_c2 10 rfl rfl
theorem wp_md_word_d69 : decode prog_13_method_44_code 69 = .ok (.getfield 71, 3) := wt_op180 wb20m10_prog_13_method_44_code_c2 11 rfl rfl rfl
theorem wp_md_word_d72 : decode prog_13_method_44_code 72 = .ok (.iload_n 1, 1) := wt_op27 wb20m10_prog_13_method_44_code_c2 14 rfl rfl
theorem wp_md_word_d73 : decode prog_13_method_44_code 73 = .ok (.iaload, 1) := wt_op46 wb20m10_prog_13_method_44_code_c2 15 rfl rfl
theorem wp_md_word_d74 : decode prog_13_method_44_code 74 = .ok (.goto 35, 3) := wt_op167 wb20m10_prog_13_method_44_code_c2 16 rfl rfl rfl
theorem wp_md_word_d77 : decode prog_13_method_44_code 77 = .ok (.iload_n 2, 1) := wt_op28 wb20m10_prog_13_method_44_code_c2 19 rfl rfl
theorem wp_md_word_d78 : decode prog_13_method_44_code 78 = .ok (.iconst 2, 1) := wt_op5 wb20m10_prog_13_method_44_code_c2 20 rfl rfl
theorem wp_md_word_d79 : decode prog_13_method_44_code 79 = .ok (.if_icmp .ne 12, 3) := wt_op160 wb20m10_prog_13_method_44_code_c2 21 rfl rfl rfl
theorem wp_md_word_d82 : decode prog_13_method_44_code 82 = .ok (.aload_n 0, 1) := wt_op42 wb20m10_prog_13_method_44_code_c2 24 rfl rfl
theorem wp_md_word_d83 : decode prog_13_method_44_code 83 = .ok (.getfield 77, 3) := wt_op180 wb20m10_prog_13_method_44_code_c2 25 rfl rfl rfl
theorem wp_md_word_d86 : decode prog_13_method_44_code 86 = .ok (.iload_n 1, 1) := wt_op27 wb20m10_prog_13_method_44_code_c3 0 rfl rfl
theorem wp_md_word_d87 : decode prog_13_method_44_code 87 = .ok (.iaload, 1) := wt_op46 wb20m10_prog_13_method_44_code_c3 1 rfl rfl
theorem wp_md_word_d88 : decode prog_13_method_44_code 88 = .ok (.goto 21, 3) := wt_op167 wb20m10_prog_13_method_44_code_c3 2 rfl rfl rfl
theorem wp_md_word_d91 : decode prog_13_method_44_code 91 = .ok (.iload_n 2, 1) := wt_op28 wb20m10_prog_13_method_44_code_c3 5 rfl rfl
theorem wp_md_word_d92 : decode prog_13_method_44_code 92 = .ok (.iconst 3, 1) := wt_op6 wb20m10_prog_13_method_44_code_c3 6 rfl rfl
theorem wp_md_word_d93 : decode prog_13_method_44_code 93 = .ok (.if_icmp .ne 11, 3) := wt_op160 wb20m10_prog_13_method_44_code_c3 7 rfl rfl rfl
theorem wp_md_word_d96 : decode prog_13_method_44_code 96 = .ok (.aload_n 0, 1) := wt_op42 wb20m10_prog_13_method_44_code_c3 10 rfl rfl
theorem wp_md_word_d97 : decode prog_13_method_44_code 97 = .ok (.iload_n 1, 1) := wt_op27 wb20m10_prog_13_method_44_code_c3 11 rfl rfl
theorem wp_md_word_d98 : decode prog_13_method_44_code 98 = .ok (.invokevirtual 301, 3) := wt_op182 wb20m10_prog_13_method_44_code_c3 12 rfl rfl rfl
theorem wp_md_word_d101 : decode prog_13_method_44_code 101 = .ok (.goto 8, 3) := wt_op167 wb20m10_prog_13_method_44_code_c3 15 rfl rfl rfl
theorem wp_md_word_d104 : decode prog_13_method_44_code 104 = .ok (.aload_n 0, 1) := wt_op42 wb20m10_prog_13_method_44_code_c3 18 rfl rfl
theorem wp_md_word_d105 : decode prog_13_method_44_code 105 = .ok (.iload_n 1, 1) := wt_op27 wb20m10_prog_13_method_44_code_c3 19 rfl rfl
theorem wp_md_word_d106 : decode prog_13_method_44_code 106 = .ok (.invokevirtual 304, 3) := wt_op182 wb20m10_prog_13_method_44_code_c3 20 rfl rfl rfl
theorem wp_md_word_d109 : decode prog_13_method_44_code 109 = .ok (.ireturn, 1) := wt_op172 wb20m10_prog_13_method_44_code_c3 23 rfl rfl
noncomputable def wp_md_word_B41 (n : Nat) (x1 : Int32) (x2 : Int32) (y1 : Int32) (σ : wt_St) : Option (Int32 × wt_St) :=
  (wp_md_bad n y1 (2 : Int32) σ).bind fun q7 =>
  if q7.1 = 0 then
    if x2 = 0 then
      if x1 < 0 ∨ 60 ≤ Int32.toNatClampNeg x1 then none else
      some ((wt_ga q7.2 126 (Int32.toNatClampNeg x1)), q7.2)
    else
      if x2 = (1 : Int32) then
        if x1 < 0 ∨ 60 ≤ Int32.toNatClampNeg x1 then none else
        some ((wt_ga q7.2 128 (Int32.toNatClampNeg x1)), q7.2)
      else
        if x2 = (2 : Int32) then
          if x1 < 0 ∨ 61 ≤ Int32.toNatClampNeg x1 then none else
          some ((wt_ga q7.2 130 (Int32.toNatClampNeg x1)), q7.2)
        else
          if x2 = (3 : Int32) then
            (wp_md_priceOf n x1 q7.2).bind fun q14 =>
            some (q14.1, q14.2)
          else
            (wp_md_canWord n x1 q7.2).bind fun q13 =>
            some (q13.1, q13.2)
  else
    some ((0 : Int32), q7.2)
set_option maxRecDepth 100000 in
set_option maxHeartbeats 4000000 in
theorem wp_md_word_B41_ok  {x1 : Int32} {x2 : Int32} {X : wt_X} {n : Nat} {res : Int32 × wt_St} (hE : wt_Ok X prog_13_method_44_code 3 "WornTypeModel" 5 0) (hR : wt_Rt X (some .int) (some res.1) res.2) (hD : ∀ i, 108 ≤ i → i < 321 → wt_dom (wt_xw X) i)  {σ : wt_St} {y1 : Int32} (h : wp_md_word_B41 n x1 x2 y1 σ = some res) : wt_V X 0 σ 41 [some (.ref (wt_ad (wt_xw X) 108)), some (.int x1), some (.int x2)] [.int y1, .ref (wt_ad (wt_xw X) 108)] := by
  unfold wp_md_word_B41 at h
  refine wt_iconst hE (2 : Int32) wp_md_word_d41 wt_ci_2 ?_
  obtain ⟨q7, hq7, h⟩ := wt_bi h
  refine wt_callVi hE [.int y1, .int (2 : Int32)] wt_lm_md_230 wt_ya_md_bad (wp_md_bad_ok hD hq7) (by omega) (hD 108 (by decide) (by decide)) wt_L108 rfl rfl rfl (Nat.le_of_ble_eq_true rfl) (Nat.zero_le _) wp_md_word_d42 (fun hbq7 => ?_)
  refine wt_if_eq hE 50 wp_md_word_d45 rfl (fun c8 => ?_) (fun c8 => ?_)
  · have h := wt_ip c8 h
    refine wt_iload_n hE wp_md_word_d50 rfl ?_
    refine wt_if_ne hE 63 wp_md_word_d51 rfl (fun c9 => ?_) (fun c9 => ?_)
    · have h := wt_in c9 h
      refine wt_iload_n hE wp_md_word_d63 rfl ?_
      refine wt_iconst hE (1 : Int32) wp_md_word_d64 wt_ci_1 ?_
      refine wt_icmp_ne hE 77 wp_md_word_d65 rfl (fun c10 => ?_) (fun c10 => ?_)
      · have h := wt_in c10 h
        refine wt_iload_n hE wp_md_word_d77 rfl ?_
        refine wt_iconst hE (2 : Int32) wp_md_word_d78 wt_ci_2 ?_
        refine wt_icmp_ne hE 91 wp_md_word_d79 rfl (fun c11 => ?_) (fun c11 => ?_)
        · have h := wt_in c11 h
          refine wt_iload_n hE wp_md_word_d91 rfl ?_
          refine wt_iconst hE (3 : Int32) wp_md_word_d92 wt_ci_3 ?_
          refine wt_icmp_ne hE 104 wp_md_word_d93 rfl (fun c12 => ?_) (fun c12 => ?_)
          · have h := wt_in c12 h
            refine wt_aload_n hE wp_md_word_d104 rfl ?_
            refine wt_iload_n hE wp_md_word_d105 rfl ?_
            obtain ⟨q13, hq13, h⟩ := wt_bi h
            refine wt_callVi hE [.int x1] wt_lm_md_304 wt_ya_md_canWord (wp_md_canWord_ok hD hq13) (by omega) (hD 108 (by decide) (by decide)) wt_L108 rfl rfl rfl (Nat.le_of_ble_eq_true rfl) (Nat.zero_le _) wp_md_word_d106 (fun hbq13 => ?_)
            cases h
            exact wt_iret hE hR wp_md_word_d109
          · have h := wt_ip c12 h
            refine wt_aload_n hE wp_md_word_d96 rfl ?_
            refine wt_iload_n hE wp_md_word_d97 rfl ?_
            obtain ⟨q14, hq14, h⟩ := wt_bi h
            refine wt_callVi hE [.int x1] wt_lm_md_301 wt_ya_md_priceOf (wp_md_priceOf_ok hD hq14) (by omega) (hD 108 (by decide) (by decide)) wt_L108 rfl rfl rfl (Nat.le_of_ble_eq_true rfl) (Nat.zero_le _) wp_md_word_d98 (fun hbq14 => ?_)
            refine wt_goto hE 109 wp_md_word_d101 rfl ?_
            cases h
            exact wt_iret hE hR wp_md_word_d109
        · have h := wt_ip c11 h
          refine wt_aload_n hE wp_md_word_d82 rfl ?_
          refine wt_getr hE (r := 130) wt_lf_md_77 (hD 108 (by decide) (by decide)) wt_L108 rfl wp_md_word_d83 ?_
          refine wt_iload_n hE wp_md_word_d86 rfl ?_
          obtain ⟨g15, h⟩ := wt_gd h
          refine wt_iald hE (hD 130 (by decide) (by decide)) wt_L130 g15 wp_md_word_d87 ?_
          refine wt_goto hE 109 wp_md_word_d88 rfl ?_
          cases h
          exact wt_iret hE hR wp_md_word_d109
      · have h := wt_ip c10 h
        refine wt_aload_n hE wp_md_word_d68 rfl ?_
        refine wt_getr hE (r := 128) wt_lf_md_71 (hD 108 (by decide) (by decide)) wt_L108 rfl wp_md_word_d69 ?_
        refine wt_iload_n hE wp_md_word_d72 rfl ?_
        obtain ⟨g16, h⟩ := wt_gd h
        refine wt_iald hE (hD 128 (by decide) (by decide)) wt_L128 g16 wp_md_word_d73 ?_
        refine wt_goto hE 109 wp_md_word_d74 rfl ?_
        cases h
        exact wt_iret hE hR wp_md_word_d109
    · have h := wt_ip c9 h
      refine wt_aload_n hE wp_md_word_d54 rfl ?_
      refine wt_getr hE (r := 126) wt_lf_md_65 (hD 108 (by decide) (by decide)) wt_L108 rfl wp_md_word_d55 ?_
      refine wt_iload_n hE wp_md_word_d58 rfl ?_
      obtain ⟨g17, h⟩ := wt_gd h
      refine wt_iald hE (hD 126 (by decide) (by decide)) wt_L126 g17 wp_md_word_d59 ?_
      refine wt_goto hE 109 wp_md_word_d60 rfl ?_
      cases h
      exact wt_iret hE hR wp_md_word_d109
  · have h := wt_in c8 h
    refine wt_iconst hE (0 : Int32) wp_md_word_d48 wt_ci_0 ?_
    cases h
    exact wt_iret hE hR wp_md_word_d49
noncomputable def wp_md_word_B19 (n : Nat) (x1 : Int32) (x2 : Int32) (y1 : Int32) (σ : wt_St) : Option (Int32 × wt_St) :=
  (wp_md_bad n y1 (1 : Int32) σ).bind fun q3 =>
  if q3.1 = 0 then
    (wp_md_in n x2 (0 : Int32) (4 : Int32) q3.2).bind fun q5 =>
    if q5.1 = 0 then
      wp_md_word_B41 n x1 x2 (1 : Int32) q5.2
    else
      wp_md_word_B41 n x1 x2 (0 : Int32) q5.2
  else
    some ((0 : Int32), q3.2)
set_option maxRecDepth 100000 in
set_option maxHeartbeats 4000000 in
theorem wp_md_word_B19_ok  {x1 : Int32} {x2 : Int32} {X : wt_X} {n : Nat} {res : Int32 × wt_St} (hE : wt_Ok X prog_13_method_44_code 3 "WornTypeModel" 5 0) (hR : wt_Rt X (some .int) (some res.1) res.2) (hD : ∀ i, 108 ≤ i → i < 321 → wt_dom (wt_xw X) i)  {σ : wt_St} {y1 : Int32} (h : wp_md_word_B19 n x1 x2 y1 σ = some res) : wt_V X 0 σ 19 [some (.ref (wt_ad (wt_xw X) 108)), some (.int x1), some (.int x2)] [.int y1, .ref (wt_ad (wt_xw X) 108)] := by
  unfold wp_md_word_B19 at h
  refine wt_iconst hE (1 : Int32) wp_md_word_d19 wt_ci_1 ?_
  obtain ⟨q3, hq3, h⟩ := wt_bi h
  refine wt_callVi hE [.int y1, .int (1 : Int32)] wt_lm_md_230 wt_ya_md_bad (wp_md_bad_ok hD hq3) (by omega) (hD 108 (by decide) (by decide)) wt_L108 rfl rfl rfl (Nat.le_of_ble_eq_true rfl) (Nat.zero_le _) wp_md_word_d20 (fun hbq3 => ?_)
  refine wt_if_ne hE 48 wp_md_word_d23 rfl (fun c4 => ?_) (fun c4 => ?_)
  · have h := wt_in c4 h
    refine wt_iconst hE (0 : Int32) wp_md_word_d48 wt_ci_0 ?_
    cases h
    exact wt_iret hE hR wp_md_word_d49
  · have h := wt_ip c4 h
    refine wt_aload_n hE wp_md_word_d26 rfl ?_
    refine wt_iload_n hE wp_md_word_d27 rfl ?_
    refine wt_iconst hE (0 : Int32) wp_md_word_d28 wt_ci_0 ?_
    refine wt_iconst hE (4 : Int32) wp_md_word_d29 wt_ci_4 ?_
    obtain ⟨q5, hq5, h⟩ := wt_bi h
    refine wt_callSi hE [.int x2, .int (0 : Int32), .int (4 : Int32)] wt_lm_md_185 wt_ya_md_in (wp_md_in_ok hq5) (by omega) rfl rfl (Nat.le_of_ble_eq_true rfl) (Nat.zero_le _) wp_md_word_d30 (fun hbq5 => ?_)
    refine wt_if_ne hE 40 wp_md_word_d33 rfl (fun c6 => ?_) (fun c6 => ?_)
    · have h := wt_in c6 h
      refine wt_iconst hE (0 : Int32) wp_md_word_d40 wt_ci_0 ?_
      exact wp_md_word_B41_ok hE hR hD h
    · have h := wt_ip c6 h
      refine wt_iconst hE (1 : Int32) wp_md_word_d36 wt_ci_1 ?_
      refine wt_goto hE 41 wp_md_word_d37 rfl ?_
      exact wp_md_word_B41_ok hE hR hD h
noncomputable def wp_md_word (n : Nat) (x1 : Int32) (x2 : Int32) (σ : wt_St) : Option (Int32 × wt_St) :=
  (wp_md_isWordNumber n x1 (wt_sf σ 108 0 (0 : Int32))).bind fun q1 =>
  if q1.1 = 0 then
    wp_md_word_B19 n x1 x2 (1 : Int32) q1.2
  else
    wp_md_word_B19 n x1 x2 (0 : Int32) q1.2
set_option maxRecDepth 100000 in
set_option maxHeartbeats 4000000 in
theorem wp_md_word_ok {l : Launch} {w : wt_E} {n : Nat} {x1 : Int32} {x2 : Int32} (hD : ∀ i, 108 ≤ i → i < 321 → wt_dom w i) {σ : wt_St} {q : Int32 × wt_St} (h : wp_md_word n x1 x2 σ = some q) : wt_Ctr l w wt_y_md_word prog_13_method_44_code 3 (some .int) 5 [.ref (wt_ad w 108), .int x1, .int x2] σ (some q.1) q.2 := by
  refine wt_ctr wt_pl_md_word rfl (Nat.le_of_ble_eq_true rfl) [some (.ref (wt_ad w 108)), some (.int x1), some (.int x2)] rfl ?_
  intro X hXl hXw hE hR
  subst hXl
  subst hXw
  have hE : wt_Ok X prog_13_method_44_code 3 "WornTypeModel" 5 0 := hE
  unfold wp_md_word at h
  refine wt_aload_n hE wp_md_word_d0 rfl ?_
  refine wt_iconst hE (0 : Int32) wp_md_word_d1 wt_ci_0 ?_
  refine wt_puti hE wt_lf_md_151 (hD 108 (by decide) (by decide)) wt_L108 rfl (fun q hq => by cases hq; rfl) wp_md_word_d2 ?_
  refine wt_aload_n hE wp_md_word_d5 rfl ?_
  refine wt_aload_n hE wp_md_word_d6 rfl ?_
  refine wt_iload_n hE wp_md_word_d7 rfl ?_
  obtain ⟨q1, hq1, h⟩ := wt_bi h
  refine wt_callVi hE [.int x1] wt_lm_md_298 wt_ya_md_isWordNumber (wp_md_isWordNumber_ok hD hq1) (by omega) (hD 108 (by decide) (by decide)) wt_L108 rfl rfl rfl (Nat.le_of_ble_eq_true rfl) (Nat.zero_le _) wp_md_word_d8 (fun hbq1 => ?_)
  refine wt_if_ne hE 18 wp_md_word_d11 rfl (fun c2 => ?_) (fun c2 => ?_)
  · have h := wt_in c2 h
    refine wt_iconst hE (0 : Int32) wp_md_word_d18 wt_ci_0 ?_
    exact wp_md_word_B19_ok hE hR hD h
  · have h := wt_ip c2 h
    refine wt_iconst hE (1 : Int32) wp_md_word_d14 wt_ci_1 ?_
    refine wt_goto hE 19 wp_md_word_d15 rfl ?_
    exact wp_md_word_B19_ok hE hR hD h
def wb20m10_prog_13_method_70_code_r2 : List (List Nat) := [164, 0, 9, 19, 1, 89, 167, 0, 13, 28, 42, 180, 0, 130, 3, 50, 29, 46, 96, 61, 132, 3, 1, 167, 255, 212, 28, 172] :: []
def wb20m10_prog_13_method_70_code_r1 : List (List Nat) := [42, 27, 182, 1, 90, 3, 61, 3, 62, 29, 42, 180, 1, 3, 162, 0, 42, 28, 42, 180, 0, 130, 3, 50, 29, 46, 96, 19, 1, 89] :: wb20m10_prog_13_method_70_code_r2
def wb20m10_prog_13_method_70_code_r0 : List (List Nat) := [42, 3, 181, 0, 151, 42, 42, 27, 182, 1, 51, 154, 0, 7, 4, 167, 0, 4, 3, 4, 182, 0, 230, 153, 0, 5, 3, 172] :: wb20m10_prog_13_method_70_code_r1
set_option maxRecDepth 100000 in
theorem wb20m10_prog_13_method_70_code_c0 : wt_cs prog_13_method_70_code 0 wb20m10_prog_13_method_70_code_r0 := wt_cs_of (by decide +kernel)
theorem wb20m10_prog_13_method_70_code_c1 : wt_cs prog_13_method_70_code 28 wb20m10_prog_13_method_70_code_r1 := wt_cs_tl (m := 28) wb20m10_prog_13_method_70_code_c0 rfl rfl
theorem wb20m10_prog_13_method_70_code_c2 : wt_cs prog_13_method_70_code 58 wb20m10_prog_13_method_70_code_r2 := wt_cs_tl (m := 30) wb20m10_prog_13_method_70_code_c1 rfl rfl
theorem wp_md_wordings_d0 : decode prog_13_method_70_code 0 = .ok (.aload_n 0, 1) := wt_op42 wb20m10_prog_13_method_70_code_c0 0 rfl rfl
theorem wp_md_wordings_d1 : decode prog_13_method_70_code 1 = .ok (.iconst 0, 1) := wt_op3 wb20m10_prog_13_method_70_code_c0 1 rfl rfl
theorem wp_md_wordings_d2 : decode prog_13_method_70_code 2 = .ok (.putfield 151, 3) := wt_op181 wb20m10_prog_13_method_70_code_c0 2 rfl rfl rfl
theorem wp_md_wordings_d5 : decode prog_13_method_70_code 5 = .ok (.aload_n 0, 1) := wt_op42 wb20m10_prog_13_method_70_code_c0 5 rfl rfl
theorem wp_md_wordings_d6 : decode prog_13_method_70_code 6 = .ok (.aload_n 0, 1) := wt_op42 wb20m10_prog_13_method_70_code_c0 6 rfl rfl
theorem wp_md_wordings_d7 : decode prog_13_method_70_code 7 = .ok (.iload_n 1, 1) := wt_op27 wb20m10_prog_13_method_70_code_c0 7 rfl rfl
theorem wp_md_wordings_d8 : decode prog_13_method_70_code 8 = .ok (.invokevirtual 307, 3) := wt_op182 wb20m10_prog_13_method_70_code_c0 8 rfl rfl rfl
theorem wp_md_wordings_d11 : decode prog_13_method_70_code 11 = .ok (.ifCond .ne 7, 3) := wt_op154 wb20m10_prog_13_method_70_code_c0 11 rfl rfl rfl
theorem wp_md_wordings_d14 : decode prog_13_method_70_code 14 = .ok (.iconst 1, 1) := wt_op4 wb20m10_prog_13_method_70_code_c0 14 rfl rfl
theorem wp_md_wordings_d15 : decode prog_13_method_70_code 15 = .ok (.goto 4, 3) := wt_op167 wb20m10_prog_13_method_70_code_c0 15 rfl rfl rfl
theorem wp_md_wordings_d18 : decode prog_13_method_70_code 18 = .ok (.iconst 0, 1) := wt_op3 wb20m10_prog_13_method_70_code_c0 18 rfl rfl
theorem wp_md_wordings_d19 : decode prog_13_method_70_code 19 = .ok (.iconst 1, 1) := wt_op4 wb20m10_prog_13_method_70_code_c0 19 rfl rfl
theorem wp_md_wordings_d20 : decode prog_13_method_70_code 20 = .ok (.invokevirtual 230, 3) := wt_op182 wb20m10_prog_13_method_70_code_c0 20 rfl rfl rfl
theorem wp_md_wordings_d23 : decode prog_13_method_70_code 23 = .ok (.ifCond .eq 5, 3) := wt_op153 wb20m10_prog_13_method_70_code_c0 23 rfl rfl rfl
theorem wp_md_wordings_d26 : decode prog_13_method_70_code 26 = .ok (.iconst 0, 1) := wt_op3 wb20m10_prog_13_method_70_code_c0 26 rfl rfl
theorem wp_md_wordings_d27 : decode prog_13_method_70_code 27 = .ok (.ireturn, 1) := wt_op172 wb20m10_prog_13_method_70_code_c0 27 rfl rfl
theorem wp_md_wordings_d28 : decode prog_13_method_70_code 28 = .ok (.aload_n 0, 1) := wt_op42 wb20m10_prog_13_method_70_code_c1 0 rfl rfl
theorem wp_md_wordings_d29 : decode prog_13_method_70_code 29 = .ok (.iload_n 1, 1) := wt_op27 wb20m10_prog_13_method_70_code_c1 1 rfl rfl
theorem wp_md_wordings_d30 : decode prog_13_method_70_code 30 = .ok (.invokevirtual 346, 3) := wt_op182 wb20m10_prog_13_method_70_code_c1 2 rfl rfl rfl
theorem wp_md_wordings_d33 : decode prog_13_method_70_code 33 = .ok (.iconst 0, 1) := wt_op3 wb20m10_prog_13_method_70_code_c1 5 rfl rfl
theorem wp_md_wordings_d34 : decode prog_13_method_70_code 34 = .ok (.istore_n 2, 1) := wt_op61 wb20m10_prog_13_method_70_code_c1 6 rfl rfl
theorem wp_md_wordings_d35 : decode prog_13_method_70_code 35 = .ok (.iconst 0, 1) := wt_op3 wb20m10_prog_13_method_70_code_c1 7 rfl rfl
theorem wp_md_wordings_d36 : decode prog_13_method_70_code 36 = .ok (.istore_n 3, 1) := wt_op62 wb20m10_prog_13_method_70_code_c1 8 rfl rfl
theorem wp_md_wordings_d37 : decode prog_13_method_70_code 37 = .ok (.iload_n 3, 1) := wt_op29 wb20m10_prog_13_method_70_code_c1 9 rfl rfl
theorem wp_md_wordings_d38 : decode prog_13_method_70_code 38 = .ok (.aload_n 0, 1) := wt_op42 wb20m10_prog_13_method_70_code_c1 10 rfl rfl
theorem wp_md_wordings_d39 : decode prog_13_method_70_code 39 = .ok (.getfield 259, 3) := wt_op180 wb20m10_prog_13_method_70_code_c1 11 rfl rfl rfl
theorem wp_md_wordings_d42 : decode prog_13_method_70_code 42 = .ok (.if_icmp .ge 42, 3) := wt_op162 wb20m10_prog_13_method_70_code_c1 14 rfl rfl rfl
theorem wp_md_wordings_d45 : decode prog_13_method_70_code 45 = .ok (.iload_n 2, 1) := wt_op28 wb20m10_prog_13_method_70_code_c1 17 rfl rfl
theorem wp_md_wordings_d46 : decode prog_13_method_70_code 46 = .ok (.aload_n 0, 1) := wt_op42 wb20m10_prog_13_method_70_code_c1 18 rfl rfl
theorem wp_md_wordings_d47 : decode prog_13_method_70_code 47 = .ok (.getfield 130, 3) := wt_op180 wb20m10_prog_13_method_70_code_c1 19 rfl rfl rfl
theorem wp_md_wordings_d50 : decode prog_13_method_70_code 50 = .ok (.iconst 0, 1) := wt_op3 wb20m10_prog_13_method_70_code_c1 22 rfl rfl
theorem wp_md_wordings_d51 : decode prog_13_method_70_code 51 = .ok (.aaload, 1) := wt_op50 wb20m10_prog_13_method_70_code_c1 23 rfl rfl
theorem wp_md_wordings_d52 : decode prog_13_method_70_code 52 = .ok (.iload_n 3, 1) := wt_op29 wb20m10_prog_13_method_70_code_c1 24 rfl rfl
theorem wp_md_wordings_d53 : decode prog_13_method_70_code 53 = .ok (.iaload, 1) := wt_op46 wb20m10_prog_13_method_70_code_c1 25 rfl rfl
theorem wp_md_wordings_d54 : decode prog_13_method_70_code 54 = .ok (.iadd, 1) := wt_op96 wb20m10_prog_13_method_70_code_c1 26 rfl rfl
theorem wp_md_wordings_d55 : decode prog_13_method_70_code 55 = .ok (.ldc_w 345, 3) := wt_op19 wb20m10_prog_13_method_70_code_c1 27 rfl rfl rfl
theorem wp_md_wordings_d58 : decode prog_13_method_70_code 58 = .ok (.if_icmp .le 9, 3) := wt_op164 wb20m10_prog_13_method_70_code_c2 0 rfl rfl rfl
theorem wp_md_wordings_d61 : decode prog_13_method_70_code 61 = .ok (.ldc_w 345, 3) := wt_op19 wb20m10_prog_13_method_70_code_c2 3 rfl rfl rfl
theorem wp_md_wordings_d64 : decode prog_13_method_70_code 64 = .ok (.goto 13, 3) := wt_op167 wb20m10_prog_13_method_70_code_c2 6 rfl rfl rfl
theorem wp_md_wordings_d67 : decode prog_13_method_70_code 67 = .ok (.iload_n 2, 1) := wt_op28 wb20m10_prog_13_method_70_code_c2 9 rfl rfl
theorem wp_md_wordings_d68 : decode prog_13_method_70_code 68 = .ok (.aload_n 0, 1) := wt_op42 wb20m10_prog_13_method_70_code_c2 10 rfl rfl
theorem wp_md_wordings_d69 : decode prog_13_method_70_code 69 = .ok (.getfield 130, 3) := wt_op180 wb20m10_prog_13_method_70_code_c2 11 rfl rfl rfl
theorem wp_md_wordings_d72 : decode prog_13_method_70_code 72 = .ok (.iconst 0, 1) := wt_op3 wb20m10_prog_13_method_70_code_c2 14 rfl rfl
theorem wp_md_wordings_d73 : decode prog_13_method_70_code 73 = .ok (.aaload, 1) := wt_op50 wb20m10_prog_13_method_70_code_c2 15 rfl rfl
theorem wp_md_wordings_d74 : decode prog_13_method_70_code 74 = .ok (.iload_n 3, 1) := wt_op29 wb20m10_prog_13_method_70_code_c2 16 rfl rfl
theorem wp_md_wordings_d75 : decode prog_13_method_70_code 75 = .ok (.iaload, 1) := wt_op46 wb20m10_prog_13_method_70_code_c2 17 rfl rfl
theorem wp_md_wordings_d76 : decode prog_13_method_70_code 76 = .ok (.iadd, 1) := wt_op96 wb20m10_prog_13_method_70_code_c2 18 rfl rfl
theorem wp_md_wordings_d77 : decode prog_13_method_70_code 77 = .ok (.istore_n 2, 1) := wt_op61 wb20m10_prog_13_method_70_code_c2 19 rfl rfl
theorem wp_md_wordings_d78 : decode prog_13_method_70_code 78 = .ok (.iinc 3 1, 3) := wt_op132 wb20m10_prog_13_method_70_code_c2 20 rfl rfl rfl
theorem wp_md_wordings_d81 : decode prog_13_method_70_code 81 = .ok (.goto (-44), 3) := wt_op167 wb20m10_prog_13_method_70_code_c2 23 rfl rfl rfl
theorem wp_md_wordings_d84 : decode prog_13_method_70_code 84 = .ok (.iload_n 2, 1) := wt_op28 wb20m10_prog_13_method_70_code_c2 26 rfl rfl
theorem wp_md_wordings_d85 : decode prog_13_method_70_code 85 = .ok (.ireturn, 1) := wt_op172 wb20m10_prog_13_method_70_code_c2 27 rfl rfl
noncomputable def wp_md_wordings_B77 (n : Nat) (x3 : Int32) (K37 : Int32 × Int32 × wt_St → Option (Int32 × wt_St)) (y0 : Int32) (σ : wt_St) : Option (Int32 × wt_St) :=
  K37 (y0, (x3 + (1 : Int32)), σ)
set_option maxRecDepth 100000 in
set_option maxHeartbeats 4000000 in
theorem wp_md_wordings_B77_ok  {x3 : Int32} {X : wt_X} {n : Nat} {res : Int32 × wt_St} (hE : wt_Ok X prog_13_method_70_code 4 "WornTypeModel" 2 0) (hR : wt_Rt X (some .int) (some res.1) res.2) (hD : ∀ i, 108 ≤ i → i < 321 → wt_dom (wt_xw X) i)  {K37 : Int32 × Int32 × wt_St → Option (Int32 × wt_St)} (hK37 : ∀ s : Int32 × Int32 × wt_St, K37 s = some res → wt_V X 0 s.2.2 37 [some (.ref (wt_ad (wt_xw X) 108)), none, some (.int s.1), some (.int s.2.1)] []) {σ : wt_St} {y0 : Int32} (h : wp_md_wordings_B77 n x3 K37 y0 σ = some res) : wt_V X 0 σ 77 [some (.ref (wt_ad (wt_xw X) 108)), none, none, some (.int x3)] [.int y0] := by
  unfold wp_md_wordings_B77 at h
  refine wt_istore_n hE [some (.ref (wt_ad (wt_xw X) 108)), none, some (.int y0), some (.int x3)] wp_md_wordings_d77 (by decide) rfl ?_
  refine wt_iinc hE (x3 + (1 : Int32)) [some (.ref (wt_ad (wt_xw X) 108)), none, some (.int y0), some (.int (x3 + (1 : Int32)))] wp_md_wordings_d78 (by decide) rfl rfl rfl ?_
  refine wt_goto hE 37 wp_md_wordings_d81 rfl ?_
  exact hK37 (y0, (x3 + (1 : Int32)), σ) h
noncomputable def wp_md_wordings_B37 (n : Nat) (K37 : Int32 × Int32 × wt_St → Option (Int32 × wt_St)) (s : Int32 × Int32 × wt_St) : Option (Int32 × wt_St) :=
  if (wt_gf s.2.2 108 28) ≤ s.2.1 then
    some (s.1, s.2.2)
  else
    if (0 : Int32) < 0 ∨ 12 ≤ Int32.toNatClampNeg (0 : Int32) then none else
    if s.2.1 < 0 ∨ 60 ≤ Int32.toNatClampNeg s.2.1 then none else
    if (s.1 + (wt_ga s.2.2 (305 + Int32.toNatClampNeg (0 : Int32)) (Int32.toNatClampNeg s.2.1))) ≤ (1000000 : Int32) then
      if (0 : Int32) < 0 ∨ 12 ≤ Int32.toNatClampNeg (0 : Int32) then none else
      if s.2.1 < 0 ∨ 60 ≤ Int32.toNatClampNeg s.2.1 then none else
      wp_md_wordings_B77 n s.2.1 K37 (s.1 + (wt_ga s.2.2 (305 + Int32.toNatClampNeg (0 : Int32)) (Int32.toNatClampNeg s.2.1))) s.2.2
    else
      wp_md_wordings_B77 n s.2.1 K37 (1000000 : Int32) s.2.2
set_option maxRecDepth 100000 in
set_option maxHeartbeats 4000000 in
theorem wp_md_wordings_B37_ok  {X : wt_X} {n : Nat} {res : Int32 × wt_St} (hE : wt_Ok X prog_13_method_70_code 4 "WornTypeModel" 2 0) (hR : wt_Rt X (some .int) (some res.1) res.2) (hD : ∀ i, 108 ≤ i → i < 321 → wt_dom (wt_xw X) i)  {K37 : Int32 × Int32 × wt_St → Option (Int32 × wt_St)} (hK37 : ∀ s : Int32 × Int32 × wt_St, K37 s = some res → wt_V X 0 s.2.2 37 [some (.ref (wt_ad (wt_xw X) 108)), none, some (.int s.1), some (.int s.2.1)] []) {s : Int32 × Int32 × wt_St} (h : wp_md_wordings_B37 n K37 s = some res) : wt_V X 0 s.2.2 37 [some (.ref (wt_ad (wt_xw X) 108)), none, some (.int s.1), some (.int s.2.1)] [] := by
  unfold wp_md_wordings_B37 at h
  refine wt_iload_n hE wp_md_wordings_d37 rfl ?_
  refine wt_aload_n hE wp_md_wordings_d38 rfl ?_
  refine wt_geti hE wt_lf_md_259 (hD 108 (by decide) (by decide)) wt_L108 rfl wp_md_wordings_d39 ?_
  refine wt_icmp_ge hE 84 wp_md_wordings_d42 rfl (fun c6 => ?_) (fun c6 => ?_)
  · have h := wt_ip c6 h
    refine wt_iload_n hE wp_md_wordings_d84 rfl ?_
    cases h
    exact wt_iret hE hR wp_md_wordings_d85
  · have h := wt_in c6 h
    refine wt_iload_n hE wp_md_wordings_d45 rfl ?_
    refine wt_aload_n hE wp_md_wordings_d46 rfl ?_
    refine wt_getr hE (r := 304) wt_lf_md_130 (hD 108 (by decide) (by decide)) wt_L108 rfl wp_md_wordings_d47 ?_
    refine wt_iconst hE (0 : Int32) wp_md_wordings_d50 wt_ci_0 ?_
    obtain ⟨g7, h⟩ := wt_gd h
    have lg7 := wt_lt g7
    refine wt_aald1 hE (hD 304 (by decide) (by decide)) wt_L304 g7 wp_md_wordings_d51 ?_
    refine wt_iload_n hE wp_md_wordings_d52 rfl ?_
    obtain ⟨g8, h⟩ := wt_gd h
    refine wt_iald hE (hD _ (by omega) (by omega)) (wt_G305 _ lg7) g8 wp_md_wordings_d53 ?_
    refine wt_iadd hE wp_md_wordings_d54 ?_
    refine wt_ldcw hE (1000000 : Int32) wt_lc_md_345 wp_md_wordings_d55 ?_
    refine wt_icmp_le hE 67 wp_md_wordings_d58 rfl (fun c9 => ?_) (fun c9 => ?_)
    · have h := wt_ip c9 h
      refine wt_iload_n hE wp_md_wordings_d67 rfl ?_
      refine wt_aload_n hE wp_md_wordings_d68 rfl ?_
      refine wt_getr hE (r := 304) wt_lf_md_130 (hD 108 (by decide) (by decide)) wt_L108 rfl wp_md_wordings_d69 ?_
      refine wt_iconst hE (0 : Int32) wp_md_wordings_d72 wt_ci_0 ?_
      obtain ⟨g10, h⟩ := wt_gd h
      have lg10 := wt_lt g10
      refine wt_aald1 hE (hD 304 (by decide) (by decide)) wt_L304 g10 wp_md_wordings_d73 ?_
      refine wt_iload_n hE wp_md_wordings_d74 rfl ?_
      obtain ⟨g11, h⟩ := wt_gd h
      refine wt_iald hE (hD _ (by omega) (by omega)) (wt_G305 _ lg10) g11 wp_md_wordings_d75 ?_
      refine wt_iadd hE wp_md_wordings_d76 ?_
      refine wt_wk [true, true, false, true] rfl ?_
      exact wp_md_wordings_B77_ok hE hR hD hK37 h
    · have h := wt_in c9 h
      refine wt_ldcw hE (1000000 : Int32) wt_lc_md_345 wp_md_wordings_d61 ?_
      refine wt_goto hE 77 wp_md_wordings_d64 rfl ?_
      refine wt_wk [true, true, false, true] rfl ?_
      exact wp_md_wordings_B77_ok hE hR hD hK37 h
noncomputable def wp_md_wordings_B19 (n : Nat) (x1 : Int32) (y1 : Int32) (σ : wt_St) : Option (Int32 × wt_St) :=
  (wp_md_bad n y1 (1 : Int32) σ).bind fun q3 =>
  if q3.1 = 0 then
    (wp_md_laysRests n x1 q3.2).bind fun q5 =>
    wt_it (wp_md_wordings_B37 n) n ((0 : Int32), (0 : Int32), q5)
  else
    some ((0 : Int32), q3.2)
set_option maxRecDepth 100000 in
set_option maxHeartbeats 4000000 in
theorem wp_md_wordings_B19_ok  {x1 : Int32} {X : wt_X} {n : Nat} {res : Int32 × wt_St} (hE : wt_Ok X prog_13_method_70_code 4 "WornTypeModel" 2 0) (hR : wt_Rt X (some .int) (some res.1) res.2) (hD : ∀ i, 108 ≤ i → i < 321 → wt_dom (wt_xw X) i)  {σ : wt_St} {y1 : Int32} (h : wp_md_wordings_B19 n x1 y1 σ = some res) : wt_V X 0 σ 19 [some (.ref (wt_ad (wt_xw X) 108)), some (.int x1), none, none] [.int y1, .ref (wt_ad (wt_xw X) 108)] := by
  unfold wp_md_wordings_B19 at h
  refine wt_iconst hE (1 : Int32) wp_md_wordings_d19 wt_ci_1 ?_
  obtain ⟨q3, hq3, h⟩ := wt_bi h
  refine wt_callVi hE [.int y1, .int (1 : Int32)] wt_lm_md_230 wt_ya_md_bad (wp_md_bad_ok hD hq3) (by omega) (hD 108 (by decide) (by decide)) wt_L108 rfl rfl rfl (Nat.le_of_ble_eq_true rfl) (Nat.zero_le _) wp_md_wordings_d20 (fun hbq3 => ?_)
  refine wt_if_eq hE 28 wp_md_wordings_d23 rfl (fun c4 => ?_) (fun c4 => ?_)
  · have h := wt_ip c4 h
    refine wt_aload_n hE wp_md_wordings_d28 rfl ?_
    refine wt_iload_n hE wp_md_wordings_d29 rfl ?_
    obtain ⟨q5, hq5, h⟩ := wt_bi h
    refine wt_callVv hE [.int x1] wt_lm_md_346 wt_ya_md_laysRests (wp_md_laysRests_ok hD hq5) (by omega) (hD 108 (by decide) (by decide)) wt_L108 rfl rfl rfl (Nat.le_of_ble_eq_true rfl) (Nat.zero_le _) wp_md_wordings_d30 ?_
    refine wt_iconst hE (0 : Int32) wp_md_wordings_d33 wt_ci_0 ?_
    refine wt_istore_n hE [some (.ref (wt_ad (wt_xw X) 108)), some (.int x1), some (.int (0 : Int32)), none] wp_md_wordings_d34 (by decide) rfl ?_
    refine wt_iconst hE (0 : Int32) wp_md_wordings_d35 wt_ci_0 ?_
    refine wt_istore_n hE [some (.ref (wt_ad (wt_xw X) 108)), some (.int x1), some (.int (0 : Int32)), some (.int (0 : Int32))] wp_md_wordings_d36 (by decide) rfl ?_
    refine wt_wk [true, false, true, true] rfl ?_
    exact wt_it_ind (fun z => wt_V X 0 z.2.2 37 [some (.ref (wt_ad (wt_xw X) 108)), none, some (.int z.1), some (.int z.2.1)] []) (fun K hK z h => wp_md_wordings_B37_ok hE hR hD hK h) n ((0 : Int32), (0 : Int32), q5) h
  · have h := wt_in c4 h
    refine wt_iconst hE (0 : Int32) wp_md_wordings_d26 wt_ci_0 ?_
    cases h
    exact wt_iret hE hR wp_md_wordings_d27
noncomputable def wp_md_wordings (n : Nat) (x1 : Int32) (σ : wt_St) : Option (Int32 × wt_St) :=
  (wp_md_isText n x1 (wt_sf σ 108 0 (0 : Int32))).bind fun q1 =>
  if q1.1 = 0 then
    wp_md_wordings_B19 n x1 (1 : Int32) q1.2
  else
    wp_md_wordings_B19 n x1 (0 : Int32) q1.2
set_option maxRecDepth 100000 in
set_option maxHeartbeats 4000000 in
theorem wp_md_wordings_ok {l : Launch} {w : wt_E} {n : Nat} {x1 : Int32} (hD : ∀ i, 108 ≤ i → i < 321 → wt_dom w i) {σ : wt_St} {q : Int32 × wt_St} (h : wp_md_wordings n x1 σ = some q) : wt_Ctr l w wt_y_md_wordings prog_13_method_70_code 4 (some .int) 2 [.ref (wt_ad w 108), .int x1] σ (some q.1) q.2 := by
  refine wt_ctr wt_pl_md_wordings rfl (Nat.le_of_ble_eq_true rfl) [some (.ref (wt_ad w 108)), some (.int x1), none, none] rfl ?_
  intro X hXl hXw hE hR
  subst hXl
  subst hXw
  have hE : wt_Ok X prog_13_method_70_code 4 "WornTypeModel" 2 0 := hE
  unfold wp_md_wordings at h
  refine wt_aload_n hE wp_md_wordings_d0 rfl ?_
  refine wt_iconst hE (0 : Int32) wp_md_wordings_d1 wt_ci_0 ?_
  refine wt_puti hE wt_lf_md_151 (hD 108 (by decide) (by decide)) wt_L108 rfl (fun q hq => by cases hq; rfl) wp_md_wordings_d2 ?_
  refine wt_aload_n hE wp_md_wordings_d5 rfl ?_
  refine wt_aload_n hE wp_md_wordings_d6 rfl ?_
  refine wt_iload_n hE wp_md_wordings_d7 rfl ?_
  obtain ⟨q1, hq1, h⟩ := wt_bi h
  refine wt_callVi hE [.int x1] wt_lm_md_307 wt_ya_md_isText (wp_md_isText_ok hD hq1) (by omega) (hD 108 (by decide) (by decide)) wt_L108 rfl rfl rfl (Nat.le_of_ble_eq_true rfl) (Nat.zero_le _) wp_md_wordings_d8 (fun hbq1 => ?_)
  refine wt_if_ne hE 18 wp_md_wordings_d11 rfl (fun c2 => ?_) (fun c2 => ?_)
  · have h := wt_in c2 h
    refine wt_iconst hE (0 : Int32) wp_md_wordings_d18 wt_ci_0 ?_
    exact wp_md_wordings_B19_ok hE hR hD h
  · have h := wt_ip c2 h
    refine wt_iconst hE (1 : Int32) wp_md_wordings_d14 wt_ci_1 ?_
    refine wt_goto hE 19 wp_md_wordings_d15 rfl ?_
    exact wp_md_wordings_B19_ok hE hR hD h
end WTQ0
-- 40.thr.lean.txt
section WTQ1
/-! methods that may throw -/
abbrev wt_nms : List String := ["java/lang/RuntimeException", "java/lang/Exception"]
def wt_exn : Nat → String
  | 1 => "java/lang/IllegalArgumentException"
  | 2 => "java/util/NoSuchElementException"
  | _ => "java/lang/IndexOutOfBoundsException"
theorem wt_inG {L : List Cond} (ps : List Nat) (h : L = ps.filterMap (fun i => lw_tbl[i]?)) (hg : L.all (fun w => goodWord w || wt_isNest w) = true) : ∀ w ∈ L, w ∈ wt_GT ∨ w ∈ wt_NT := by
  intro w hw
  have hm : w ∈ lw_tbl := by
    rw [h] at hw
    obtain ⟨i, -, hi⟩ := List.mem_filterMap.mp hw
    exact List.mem_of_getElem? hi
  have h1 := List.all_eq_true.mp hg w hw
  rcases Bool.or_eq_true _ _ ▸ h1 with h2 | h2
  · exact Or.inl (List.mem_filter.mpr ⟨hm, h2⟩)
  · exact Or.inr (List.mem_filter.mpr ⟨hm, h2⟩)
theorem wt_xwI : ∀ w ∈ vx_atS "WornType" 171 "java/lang/IllegalArgumentException" wt_nms, w ∈ wt_GT ∨ w ∈ wt_NT := wt_inG [97, 650, 659, 663, 666, 668, 651, 652, 115, 116, 653, 658, 664, 684, 640, 685, 642, 686, 644, 654, 656, 646, 680, 681, 683, 646, 671, 672, 673, 674, 632, 674, 675, 676, 677, 634, 677, 678, 679, 680, 636, 670, 629, 630, 637, 638, 639, 641, 643, 645, 649, 648, 647] (by decide +kernel) (by decide +kernel)
theorem wt_xwO : ∀ w ∈ vx_atS "WornType" 209 "java/lang/IndexOutOfBoundsException" wt_nms, w ∈ wt_GT ∨ w ∈ wt_NT := wt_inG [97, 650, 659, 663, 666, 668, 651, 652, 115, 116, 653, 658, 664, 684, 640, 685, 642, 686, 644, 654, 656, 646, 680, 681, 683, 646, 991, 992, 993, 674, 632, 674, 675, 676, 677, 634, 677, 678, 679, 680, 636, 990, 981, 982, 983, 661, 984, 985, 986, 987, 649, 648, 988] (by decide +kernel) (by decide +kernel)
/-! a constructor chain whose first link has another pool place (follows Stand.ctorThrowS of the library, with chainS's first step by hand) -/
def wt_oaX (own : String) (ic : Nat) (X Y : String) (ix : Nat) (rx : ByteArray) (r : List String) : List Cond :=
  Bundle.throwableAtoms ++ Bundle.throwableSAtoms ++ (Bundle.passSAtoms X Y ix rx ++ Bundle.chainSAtoms Y r) ++
  [.methodLink own ic (Bundle.initS X), .instantiable X 6, .castable X X, .selects X Bundle.tFill0 Bundle.tFill0, .selects X Bundle.tFill Bundle.tFill,
   .lays X Bundle.tN "cause" "Ljava/lang/Throwable;", .lays X Bundle.tN "stackTrace" Bundle.steD, .lays X Bundle.tN "suppressedExceptions" Bundle.listD, .lays X Bundle.tN "detailMessage" "Ljava/lang/String;",
   .isRef (.static Bundle.tN "UNASSIGNED_STACK" Bundle.steD), .isRef (.static Bundle.tN "SUPPRESSED_SENTINEL" Bundle.listD),
   .fieldLink Bundle.tN 198 Bundle.tN "backtrace" "Ljava/lang/Object;", .lays Bundle.tN Bundle.tN "backtrace" "Ljava/lang/Object;", .lays X Bundle.tN "backtrace" "Ljava/lang/Object;"]
set_option maxHeartbeats 4000000 in
theorem wt_ctorX {p : Program} {l : Launch} {e : Env} {R : Room} {s : State} {m₀ : MethodId} {args : Array Value} {below : List Frame} {meth : Method} {c : Code} {W : State} {locs : List Loc} {cells slots : Nat} (X : Stand p l e R s m₀ args below meth c W locs cells slots) (hexec : p.tables.exec = Jvm.exec) (htr : e.platform.stackTraces = false) {own cls Yc : String} {r : List String} {ic ix : Nat} {rx : ByteArray}
    (x0 : decode rx 0 = .ok (.aload_n 0, 1)) (x1 : decode rx 1 = .ok (.aload_n 1, 1)) (x2 : decode rx 2 = .ok (.invokespecial ix, 3)) (x5 : decode rx 5 = .ok (.return_, 1))
    (hown : s.vm.findClass own = some m₀.cls) (hcls : Bundle.fit cls = true) (hY : Bundle.fit Yc = true) (hnames : ∀ n ∈ r, Bundle.fit n = true)
    (h : ∀ a ∈ wt_oaX own ic cls Yc ix rx r, a.before args s = true)
    (hlocs : ∀ x ∈ locs, ∀ cell, s.heap[x.base]? = some cell → cell.vm.isStatics = false)
    {a : Addr} {cX : ClassId} {kX : Class} (hfoundX : s.vm.findClass cls = some cX) (hkX : s.vm.classes[cX]? = some kX) (hcell : W.heap[a]? = some (freshCell cX kX)) (hnew : s.heap.size ≤ a)
    {msg : Value} (hmsg : msg.isRef = true)
    {g : JFrame} (hg : g.method = m₀) (hsize : g.locals.size = c.maxLocals) (hlocked : g.locked = none) (hentered : g.entered = []) {rest : List Value} (hstack : g.stack = msg :: .ref a :: .ref a :: rest)
    (hd6 : decode c.code g.pc = .ok (.invokespecial ic, 3)) (hd9 : decode c.code (g.pc + 3) = .ok (.athrow, 1)) (hout : ∀ x ∈ c.exceptionTable.toList, covers x (g.pc + 3) = false)
    (hRframes : r.length + 1 + 3 < R.frames) (hRlocals : 2 * g.monitorRoom + ((Value.ref a :: rest).map fun v => v.category).sum + (13 * (r.length + 1 + 1) + 42) ≤ R.locals) (hlocks : meth.locks = false) :
    ∃ U : State, Steps p.tables e below (W.setTop g) U ∧ U.status = .running ∧ Ended U below (.threw a) ∧ s.WarmedH U.vm ∧ s.sameButNew ({ U with vm := s.vm } : State) locs cells slots ∧
      ∃ ce, U.heap[a]? = some ce ∧ s.vm.findClass cls = some ce.cls ∧ ce.vm = .none := by
  have howns : e.platform.frameOwnsMonitors = true := by rw [X.admits.platform]
  have hfin : e.platform.finalization = false := by rw [X.admits.platform]
  have hpl : e.platform.magicAccessors = ({} : Platform).magicAccessors := by rw [X.admits.platform]
  have a' : ∀ x, x ∈ wt_oaX own ic cls Yc ix rx r → x.holds args s none s [] = true := fun x hx => h x hx
  obtain ⟨T, Z0, L, -, Y⟩ := ThrowableC.of_atoms (args := args) howns hfin hpl (fun x hx => h x (by simp [wt_oaX, hx]))
  obtain ⟨Z, M, LZ, LM, hnZ⟩ := Init0T.ofS_atoms (args := args) hpl L Y (fun x hx => h x (by simp [wt_oaX, hx]))
  obtain ⟨P1, L1, hP1m, hs1⟩ := PassC.ofS_atoms (args := args) (s := s) hpl (X := cls) (Y := Yc) (Bundle.fit_spec hcls).1 (Bundle.fit_spec hY).2 x0 x1 x2 x5 (fun x hx => h x (by simp [wt_oaX, hx]))
  obtain ⟨P2, Qs, hlen2, L2, hL2, hP2m, hlink2, hpass2⟩ := Bundle.chainS (args := args) hpl hnZ r Yc hY hnames (fun x hx => h x (by simp [wt_oaX, hx]))
  have hfound : s.vm.findClass cls = some P1.m.cls := findClass_of_methodNamed hP1m
  cases Option.some.inj (hfoundX.symm.trans hfound)
  obtain ⟨c1, kX', hc1, hk, hord, -, -, hn6⟩ := Cond.instantiable_spec (a' (.instantiable cls 6) (by simp [wt_oaX]))
  cases Option.some.inj (hc1.symm.trans hfound)
  cases Option.some.inj (hkX.symm.trans hk)
  have hsel0 : selectMethod e.platform s.vm P1.m.cls T.fill0 = .method T.fill0 := by
    obtain ⟨c2, r2, m2, q1, q2, q3, q4, -⟩ := Cond.selects_spec (a' (.selects cls Bundle.tFill0 Bundle.tFill0) (by simp [wt_oaX]))
    cases Option.some.inj (q1.symm.trans hfound)
    cases Option.some.inj (q2.symm.trans (State.methodFound?_of_named Y.fill0 (by decide)))
    cases Option.some.inj (q3.symm.trans Y.fill0)
    rw [Launch.admits_selectMethod X.admits]; exact q4
  have hselF : selectMethod e.platform s.vm P1.m.cls T.fill = .method T.fill := by
    obtain ⟨c2, r2, m2, q1, q2, q3, q4, -⟩ := Cond.selects_spec (a' (.selects cls Bundle.tFill Bundle.tFill) (by simp [wt_oaX]))
    cases Option.some.inj (q1.symm.trans hfound)
    cases Option.some.inj (q2.symm.trans (State.methodFound?_of_named Y.fill (by decide)))
    cases Option.some.inj (q3.symm.trans Y.fill)
    rw [Launch.admits_selectMethod X.admits]; exact q4
  obtain ⟨cellS0, hcS0, hiss⟩ := Y.statics
  obtain ⟨u0, hu0⟩ := Cond.staticRefV Y.unassigned L.unassignedStatic L.statics hcS0 hiss (a' (.isRef (.static Bundle.tN "UNASSIGNED_STACK" Bundle.steD)) (by simp [wt_oaX]))
  obtain ⟨sen, hsen⟩ := Cond.staticRefV Y.sentinel L.sentinelStatic L.statics hcS0 hiss (a' (.isRef (.static Bundle.tN "SUPPRESSED_SENTINEL" Bundle.listD)) (by simp [wt_oaX]))
  obtain ⟨ci198, i198, fB, hk198, hg198, ha198, hsB, -, hnB, htB, hffB⟩ := Cond.ownField (t := .object "java/lang/Object") Y.found L.cls (by decide +kernel) (a' (.fieldLink Bundle.tN 198 Bundle.tN "backtrace" "Ljava/lang/Object;") (by simp [wt_oaX])) (a' (.lays Bundle.tN Bundle.tN "backtrace" "Ljava/lang/Object;") (by simp [wt_oaX])) e.platform hpl
  obtain ⟨cellS, hcS', heS, -, hkeep⟩ := X.same.2.2.2.2.2 T.aS cellS0 hcS0
  have hcellS : W.heap[T.aS]? = some cellS := hcS'
  have hout' : ∀ i, (⟨T.aS, i⟩ : Loc) ∉ locs := fun i hmem => by
    have := hlocs _ hmem cellS0 hcS0
    rw [hiss] at this; cases this
  have hknownS : cellS.vm ≠ .unknown := by
    rw [heS]; intro hu
    rw [show cellS0.vm = .unknown from hu] at hiss
    cases hiss
  have hneS : T.aS ≠ a := Nat.ne_of_lt (Nat.lt_of_lt_of_le (Array.getElem?_eq_some_iff.mp hcS0).1 hnew)
  obtain ⟨iM, hffM⟩ := Y.msg
  obtain ⟨tyC, dC, hdC, hdnC⟩ := Cond.laysAt hfound hk Y.cause (a' (.lays cls Bundle.tN "cause" "Ljava/lang/Throwable;") (by simp [wt_oaX]))
  obtain ⟨tyS, dS, hdS, hdnS⟩ := Cond.laysAt hfound hk Y.stack (a' (.lays cls Bundle.tN "stackTrace" Bundle.steD) (by simp [wt_oaX]))
  obtain ⟨tyP, dP, hdP, hdnP⟩ := Cond.laysAt hfound hk Y.supp (a' (.lays cls Bundle.tN "suppressedExceptions" Bundle.listD) (by simp [wt_oaX]))
  obtain ⟨tyM, dM, hdM, hdnM⟩ := Cond.laysAt hfound hk hffM (a' (.lays cls Bundle.tN "detailMessage" "Ljava/lang/String;") (by simp [wt_oaX]))
  obtain ⟨tyB, dB, hdB, hdnB⟩ := Cond.laysAt hfound hk hffB (a' (.lays cls Bundle.tN "backtrace" "Ljava/lang/Object;") (by simp [wt_oaX]))
  have bC := Cond.laysApart hdB hdC hdnB hdnC (by rw [hnB, Y.causeName]; decide)
  have bS := Cond.laysApart hdB hdS hdnB hdnS (by rw [hnB, Y.stackName]; decide)
  have bP := Cond.laysApart hdB hdP hdnB hdnP (by rw [hnB, Y.suppName]; decide)
  have hskip : SkipFacts T e.platform s (fun u => u) u0 ((preparedCellV T.toThrowableT (freshCell P1.m.cls kX) a u0 sen).withEntry W.cur) :=
    ⟨{ ci198 := ci198, i198 := i198, fBack := fB }, ⟨hk198, hg198, ha198, hsB⟩, by
      have := fresh_default (c := P1.m.cls) tyB
      rw [htB] at this
      simpa [preparedCellV, Cell.setSlot, Cell.withEntry, Array.getElem?_setIfInBounds, bC, bS, bP, bC.symm, bS.symm, bP.symm, defaultValue] using this, fun _ _ => rfl⟩
  obtain ⟨tm, methC, cdC, kC, vm₁, hnC, -, -, -, -, -, -, -, hW₁, st1⟩ := Steps.initColdS (tb := p.tables) (e := e) (below := below) (s := s) (U := W) X.here hexec X.warmed hpl hown (t := Bundle.initS cls) rfl rfl (Bundle.fit_spec hcls).2
    (a' (.methodLink own ic (Bundle.initS cls)) (by simp [wt_oaX])) (h (.instanceMethod (Bundle.initS cls)) (by simp [wt_oaX, Bundle.passSAtoms])) (bytes := rx) (maxL := 2) (h (.code (Bundle.initS cls) rx 2 none) (by simp [wt_oaX, Bundle.passSAtoms]))
    (f := g) hg (a := a) (msg := msg) (rest := .ref a :: rest) hstack hd6
  cases Option.some.inj (hnC.symm.trans hP1m)
  have X₁ := X.noted hW₁
  have hsupE : P1.sup = P2.m := Option.some.inj (hs1.symm.trans hP2m)
  obtain ⟨vm₂, X₂, st2⟩ := X₁.ctorMessageOffV hexec (g := { g with stack := .ref a :: rest }) hg hsize T L Z LZ M LM (P1 :: P2 :: Qs)
    (fun P hP => by rcases List.mem_cons.mp hP with rfl | hP; exact L1; rcases List.mem_cons.mp hP with rfl | hP; exact L2; exact hL2 P hP) ⟨hsupE, hlink2, hpass2⟩ (u0 := u0) (sen := sen) (self := a) hmsg (cell := freshCell P1.m.cls kX) (cellS := cellS)
    hcell (fun _ => by simp) (by simp) rfl rfl hsel0 hselF hcellS hneS hknownS (by rw [hkeep _ (hout' _)]; exact hu0) (by rw [hkeep _ (hout' _)]; exact hsen)
    (Takes.of_laid hk hord tyC (by rw [Y.causeType]; rfl)) (Takes.of_laid hk hord tyS (by rw [Y.stackType]; exact fits_refV_array _ u0)) (Takes.of_laid hk hord tyP (by rw [Y.suppType]; exact fits_refV_object _ sen))
    (Takes.of_laid hk hord tyM (by rw [Y.msgType]; exact fits_refV_object _ ⟨msg, hmsg⟩)) Y.objLocals hskip htr [] hd6
    (by simp only [List.length_cons, hlen2]; omega) (by simp only [List.length_cons, hlen2]; exact hRlocals)
  obtain ⟨hwalk, hrun, hended, hWU, hsame⟩ := X₂.athrowLeaves hexec (g := { g with stack := .ref a :: rest, pc := g.pc + 3 }) hg hlocked hentered hout (a := a) (rest := rest) rfl hd9
  have hlt : a < ((W.setVm vm₁).setVm vm₂).heap.size := (Array.getElem?_eq_some_iff.mp hcell).1
  have hU := heapAt_setCell_self (s := (W.setVm vm₁).setVm vm₂) (plainBareV T.toThrowableT (freshCell P1.m.cls kX) a u0 sen msg) hlt
  refine ⟨_, st1 _ (fun acts => ?_), hrun, hended, hWU, hsame.weaken (fun y hy hlt' => ?_) (Nat.le_refl _) (Nat.le_refl _), _, hU, hfound, rfl⟩
  · rw [doInvoke_state]
    exact st2 _ hwalk
  · rcases List.mem_append.mp hy with h1 | h1
    · exact h1
    · exfalso
      have hb : y.base = a := by
        simp only [List.mem_cons, List.not_mem_nil, or_false] at h1
        rcases h1 with rfl | rfl | rfl | rfl | rfl <;> rfl
      rw [hb] at hlt'
      exact Nat.not_lt.mpr hnew hlt'
end WTQ1
-- 41.thx.lean.txt
section WTQ2
def wb41thx_prog_29_method_4_code_r0 : List (List Nat) := [42, 43, 183, 0, 13, 177] :: []
set_option maxRecDepth 100000 in
theorem wb41thx_prog_29_method_4_code_c0 : wt_cs prog_29_method_4_code 0 wb41thx_prog_29_method_4_code_r0 := wt_cs_of (by decide +kernel)
theorem wt_nse0 : decode prog_29_method_4_code 0 = .ok (.aload_n 0, 1) := wt_op42 wb41thx_prog_29_method_4_code_c0 0 rfl rfl
theorem wt_nse1 : decode prog_29_method_4_code 1 = .ok (.aload_n 1, 1) := wt_op43 wb41thx_prog_29_method_4_code_c0 1 rfl rfl
theorem wt_nse2 : decode prog_29_method_4_code 2 = .ok (.invokespecial 13, 3) := wt_op183 wb41thx_prog_29_method_4_code_c0 2 rfl rfl rfl
theorem wt_nse5 : decode prog_29_method_4_code 5 = .ok (.return_, 1) := wt_op177 wb41thx_prog_29_method_4_code_c0 5 rfl rfl
def wt_oaN : List Cond := (wt_oaX "WornType" 364 "java/util/NoSuchElementException" "java/lang/RuntimeException" 13 prog_29_method_4_code ["java/lang/Exception"]).filter vx_no
theorem wt_xwN : ∀ w ∈ wt_oaN, w ∈ wt_GT ∨ w ∈ wt_NT := wt_inG [97, 650, 659, 663, 666, 668, 651, 652, 115, 116, 653, 658, 664, 684, 640, 685, 642, 686, 644, 654, 656, 646, 680, 681, 683, 646, 1022, 1023, 1024, 674, 632, 674, 675, 676, 677, 634, 677, 678, 679, 680, 636, 1021, 1012, 1013, 1014, 662, 1015, 1016, 1017, 1018, 649, 648, 1019] (by decide +kernel) (by decide +kernel)
set_option maxRecDepth 100000 in
theorem wt_xkI : (Jvm.Cond.classLink "WornType" (167 : Nat) "java/lang/IllegalArgumentException") ∈ wt_GT := wt_g3 64 rfl rfl
set_option maxRecDepth 100000 in
theorem wt_xiI : (Jvm.Cond.initialized "java/lang/IllegalArgumentException") ∈ wt_GT := wt_g1 16 rfl rfl
set_option maxRecDepth 100000 in
theorem wt_xkO : (Jvm.Cond.classLink "WornType" (205 : Nat) "java/lang/IndexOutOfBoundsException") ∈ wt_GT := wt_g4 176 rfl rfl
set_option maxRecDepth 100000 in
theorem wt_xiO : (Jvm.Cond.initialized "java/lang/IndexOutOfBoundsException") ∈ wt_GT := wt_g1 22 rfl rfl
set_option maxRecDepth 100000 in
theorem wt_xkN : (Jvm.Cond.classLink "WornType" (360 : Nat) "java/util/NoSuchElementException") ∈ wt_GT := wt_g4 207 rfl rfl
set_option maxRecDepth 100000 in
theorem wt_xiN : (Jvm.Cond.initialized "java/util/NoSuchElementException") ∈ wt_GT := wt_g1 23 rfl rfl
theorem wt_ot {w : Cond} (h : w ∈ wt_GT ∨ w ∈ wt_NT) : vx_ot w = true := by
  rcases h with h | h
  · unfold vx_ot
    rw [(List.mem_filter.mp h).2, Bool.or_true]
  · have h1 := (List.mem_filter.mp h).2
    cases w <;> first | rfl | cases h1
abbrev wt_rmX (d mc : Nat) : Room := { frames := d, cells := mc, slots := 16 * mc, locals := 64 * d }
def wt_QcX (w : wt_E) (rt : Option FieldType) (e : Nat) (r : Option Int32) (σ' : wt_St) (sz : Nat) : Array Value → State → Outcome → State → Prop := fun a st oc t => e = 0 ∧ wt_Qc w rt r σ' sz a st oc t
def wt_XC (w : wt_E) (e : Nat) (σ' : wt_St) (sz : Nat) : String → State → State → Prop := fun E st t => e ≠ 0 ∧ E = wt_exn e ∧ wt_Wd w σ' t.heap ∧ va_F (wt_A w sz) st t
def wt_CtrX (l : Launch) (w : wt_E) (y : MethodName) (b : ByteArray) (n : Nat) (rt : Option FieldType) (d mc : Nat) (av : List Value) (σ : wt_St) (e : Nat) (r : Option Int32) (σ' : wt_St) : Prop := ∀ sz : Nat, vx_Met l y (wt_ws y b n rt) (wt_rmX d mc) (wt_PcS w wt_S0 av σ sz) (wt_QcX w rt e r σ' sz) (wt_XC w e σ' sz) mc (16 * mc) (wt_A w sz)
def wt_RtX (X : wt_X) (rt : Option FieldType) (mc e : Nat) (r : Option Int32) (σ' : wt_St) : Prop := (wt_xM X).sig.returnType = rt ∧ wt_xQ X = vx_MQ (wt_xb X) (wt_QcX (wt_xw X) rt e r σ' (wt_xs X).heap.size) (wt_XC (wt_xw X) e σ' (wt_xs X).heap.size) (wt_xa X) (wt_xs X) mc (16 * mc) (wt_A (wt_xw X) (wt_xs X).heap.size) ∧ (∀ x ∈ (wt_xc X).exceptionTable.toList, False) ∧ (wt_xl X).stackTraces = false
theorem wt_ctrX {l : Launch} (htr : l.stackTraces = false) {w : wt_E} {y : MethodName} {b : ByteArray} {n : Nat} {rt : Option FieldType} {d mc : Nat} {av : List Value} {σ : wt_St} {e : Nat} {r : Option Int32} {σ' : wt_St} (hy : plainName y.cls = true) (hc : av.all (fun v => v.category == 1) = true) (hle : (lg_sl av).length ≤ n) (lv : List (Option Value)) (hlv : lv = av.map some ++ List.replicate (n - av.length) none)
    (body : ∀ X : wt_X, wt_xl X = l → wt_xw X = w → wt_Ok X b n y.cls d mc → wt_RtX X rt mc e r σ' → wt_V X 0 σ 0 lv []) : wt_CtrX l w y b n rt d mc av σ e r σ' := by
  intro sz
  refine vx_ofW (cc := b) (maxL := n) (ret := rt) hy rfl ?_
  intro p e s m args below meth c s₁ B hml hex hv
  obtain ⟨rfl, hsz, hw, hK, hN, hF, -⟩ := hv
  have hts := atoms_spec (ws := wt_ws y b n rt) B.pre
  have hown : s.vm.findClass y.cls = some m.cls := findClass_of_methodNamed B.named
  subst hsz
  have hl := lv_entry av (n := n) hle
  rw [lg_entry_eq]
  generalize (lg_sl av ++ List.replicate (n - (lg_sl av).length) Slot.unset).toArray = ls at hl ⊢
  have hlo : wt_lo ls n lv := by
    refine ⟨hl.1, hl.2.1, fun j v hj => ?_⟩
    rw [hlv] at hj
    by_cases hj2 : j < av.length
    · rw [List.getElem?_append_left (by simpa using hj2), List.getElem?_map] at hj
      have hv2 : av[j]? = some v := by
        cases hv3 : av[j]? with
        | none => rw [hv3] at hj; cases hj
        | some z => rw [hv3] at hj; cases hj; rfl
      refine ⟨?_, ?_⟩
      · have := List.all_eq_true.mp hc v (List.mem_of_getElem? hv2)
        simpa using this
      · have := hl.2.2 _ (wt_args hc 0 j v hv2)
        simpa using this
    · rw [List.getElem?_append_right (by simpa using hj2)] at hj
      have := List.mem_of_getElem? hj
      rw [List.mem_replicate] at this
      cases this.2
  exact body ((p, l, e, (headSpec (wt_ws y b n rt) (wt_rmX d mc)).room, s, m, av.toArray, below, meth, c), w, n, _) rfl rfl ⟨B.exec, B.bytes, hml, rfl, hown, fun z hz => hts z (List.mem_cons_of_mem _ hz), hK, hN, Nat.le_refl _, Nat.le_refl _, Nat.le_refl _, Nat.le_refl _, B.notSynchronized, hF⟩ ⟨B.returns, rfl, hex, htr⟩ s.heap [] ls 0 0 (Nat.le_refl _) (Nat.zero_le _) hw va_S.rf hlo
section WX1
variable {X : wt_X} {cc : ByteArray} {nL : Nat} {own : String} {d Km K : Nat} {σ : wt_St} {pc : Nat} {lv : List (Option Value)} {st : List Value}
theorem wt_kup {K' : Nat} (h : K ≤ K') (k : wt_V X K' σ pc lv st) : wt_V X K σ pc lv st :=
  fun H locs ls ce sl h1 h2 hw hS hl => k H locs ls ce sl (by omega) (by omega) hw hS hl
theorem wt_iretX {mc : Nat} (h : wt_Ok X cc nL own d Km) {x : Int32} (hR : wt_RtX X (some .int) mc 0 (some x) σ) (hK : K ≤ mc) (hd : decode cc pc = .ok (.ireturn, 1)) : wt_V X K σ pc lv [.int x] := by
  intro H locs ls ce sl h1 h2 hw hS hl
  obtain ⟨hr, hQ, -, -⟩ := hR
  show W _ _ _ _ _ _ _ _ _ _ _ _ _ _ (wt_xQ X) _
  rw [hQ]
  refine W.widen (k := mc) (n := 16 * mc) (by omega) (by omega) (vx_ret ?_)
  exact W.iret h.1 h.2.1 hr (fun t ht hW => ⟨rfl, ⟨rfl, (fun z => by cases z), by rw [ht]; exact hw⟩, hS.F ht⟩) hS.2.2 hd h.2.2.2.2.2.2.2.2.2.2.2.2.1
theorem wt_vretX {mc : Nat} (h : wt_Ok X cc nL own d Km) (hR : wt_RtX X none mc 0 none σ) (hK : K ≤ mc) (hd : decode cc pc = .ok (.return_, 1)) : wt_V X K σ pc lv [] := by
  intro H locs ls ce sl h1 h2 hw hS hl
  obtain ⟨hr, hQ, -, -⟩ := hR
  show W _ _ _ _ _ _ _ _ _ _ _ _ _ _ (wt_xQ X) _
  rw [hQ]
  refine W.widen (k := mc) (n := 16 * mc) (by omega) (by omega) (vx_ret ?_)
  exact W.vret h.1 h.2.1 hr (fun t ht hW => ⟨rfl, ⟨rfl, (fun z => by cases z), by rw [ht]; exact hw⟩, hS.F ht⟩) hS.2.2 hd h.2.2.2.2.2.2.2.2.2.2.2.2.1
theorem wt_xcOf {e : Nat} {H : Heap} {locs : List Loc} (he : e ≠ 0) (hw : wt_Wd (wt_xw X) σ H) (hS : va_S (wt_A (wt_xw X) (wt_xs X).heap.size) (wt_xs X).heap H locs) (t : State) (h2 : H.size ≤ t.heap.size) (h3 : ∀ q : Nat, q < H.size → t.heap[q]? = H[q]?) : wt_XC (wt_xw X) e σ (wt_xs X).heap.size (wt_exn e) (wt_xs X) t :=
  ⟨he, rfl, ⟨fun i hi => (hw.1 i hi).kept (h3 _ (hw.1 i hi).lt), hw.2⟩, Nat.le_trans hS.1 h2, fun q g1 g2 => by rw [h3 q (Nat.lt_of_lt_of_le g1 hS.1)]; exact hS.2.1 q g1 g2⟩

theorem wt_thrI {mc : Nat} {rt : Option FieldType} {r : Option Int32} (h : wt_Ok X cc nL "WornType" d Km) (hR : wt_RtX X rt mc 1 r σ) {is : Nat} {text : String} (i : Nat) (hx : wt_xlits[i]? = some (is, text)) (h6 : 6 ≤ d) (hK : K + 1 ≤ mc) (hKm : mc ≤ Km) (hst : (st.map fun v => v.category).sum ≤ 8)
    (d0 : decode cc pc = .ok (.new 167, 3)) (d3 : decode cc (pc + 3) = .ok (.dup, 1)) (d4 : decode cc (pc + 4) = .ok (.ldc is, 2)) (d6 : decode cc (pc + 6) = .ok (.invokespecial 171, 3)) (d9 : decode cc (pc + 9) = .ok (.athrow, 1)) : wt_V X K σ pc lv st := by
  intro H locs ls ce sl h1 h2 hw hS hl
  obtain ⟨hx0, hb, hml, hn, hown, hts, hKK, hN, r1, r2, r3, r4, hlk, hFX⟩ := id h
  obtain ⟨hr, hQ, hex, htr⟩ := hR
  obtain ⟨sa, hsa⟩ := hFX.2.1 _ (List.mem_of_getElem? hx)
  show W _ _ _ _ _ _ _ _ _ _ _ _ _ _ (wt_xQ X) _
  rw [hQ]
  refine vx_throwS (names := wt_nms) (cls := "java/lang/IllegalArgumentException") (own := "WornType") (text := text) hx0 hb htr hown (by decide +kernel) (by decide +kernel) (hts _ wt_xkI) (hts _ wt_xiI) hsa (fun z hz => ?_) (fun z hz => ?_) hFX.2.2.2.2.1 hFX.2.2.2.2.2 hS (by rw [hl.1, hn, hml]) d0 d3 d4 d6 d9 (fun x hx => (hex x hx).elim) (by show 2 + 3 < _; omega) (by show _ + (13 * (2 + 1) + 43) ≤ _; omega) (by omega) (by omega) hlk (fun t _ g2 g3 => wt_xcOf (e := 1) (by decide) hw hS t g2 g3) hS.2.2 (by omega) (by omega)
  · rcases wt_xwI z hz with g | g
    · exact hts z g
    · exact wt_NWn hN g
  · rcases List.mem_cons.mp hz with e | hz
    · rw [e]; exact wt_ot (Or.inl wt_xkI)
    · rcases List.mem_cons.mp hz with e | hz
      · rw [e]; exact wt_ot (Or.inl wt_xiI)
      · exact wt_ot (wt_xwI z hz)
theorem wt_thrIW {mc : Nat} {rt : Option FieldType} {r : Option Int32} (h : wt_Ok X cc nL "WornType" d Km) (hR : wt_RtX X rt mc 1 r σ) {is : Nat} {text : String} (i : Nat) (hx : wt_xlits[i]? = some (is, text)) (h6 : 6 ≤ d) (hK : K + 1 ≤ mc) (hKm : mc ≤ Km) (hst : (st.map fun v => v.category).sum ≤ 8)
    (d0 : decode cc pc = .ok (.new 167, 3)) (d3 : decode cc (pc + 3) = .ok (.dup, 1)) (d4 : decode cc (pc + 4) = .ok (.ldc_w is, 3)) (d6 : decode cc (pc + 7) = .ok (.invokespecial 171, 3)) (d9 : decode cc (pc + 10) = .ok (.athrow, 1)) : wt_V X K σ pc lv st := by
  intro H locs ls ce sl h1 h2 hw hS hl
  obtain ⟨hx0, hb, hml, hn, hown, hts, hKK, hN, r1, r2, r3, r4, hlk, hFX⟩ := id h
  obtain ⟨hr, hQ, hex, htr⟩ := hR
  obtain ⟨sa, hsa⟩ := hFX.2.1 _ (List.mem_of_getElem? hx)
  show W _ _ _ _ _ _ _ _ _ _ _ _ _ _ (wt_xQ X) _
  rw [hQ]
  refine vx_throwSW (names := wt_nms) (cls := "java/lang/IllegalArgumentException") (own := "WornType") (text := text) hx0 hb htr hown (by decide +kernel) (by decide +kernel) (hts _ wt_xkI) (hts _ wt_xiI) hsa (fun z hz => ?_) (fun z hz => ?_) hFX.2.2.2.2.1 hFX.2.2.2.2.2 hS (by rw [hl.1, hn, hml]) d0 d3 d4 d6 d9 (fun x hx => (hex x hx).elim) (by show 2 + 3 < _; omega) (by show _ + (13 * (2 + 1) + 43) ≤ _; omega) (by omega) (by omega) hlk (fun t _ g2 g3 => wt_xcOf (e := 1) (by decide) hw hS t g2 g3) hS.2.2 (by omega) (by omega)
  · rcases wt_xwI z hz with g | g
    · exact hts z g
    · exact wt_NWn hN g
  · rcases List.mem_cons.mp hz with e | hz
    · rw [e]; exact wt_ot (Or.inl wt_xkI)
    · rcases List.mem_cons.mp hz with e | hz
      · rw [e]; exact wt_ot (Or.inl wt_xiI)
      · exact wt_ot (wt_xwI z hz)
theorem wt_thrO {mc : Nat} {rt : Option FieldType} {r : Option Int32} (h : wt_Ok X cc nL "WornType" d Km) (hR : wt_RtX X rt mc 3 r σ) {is : Nat} {text : String} (i : Nat) (hx : wt_xlits[i]? = some (is, text)) (h6 : 6 ≤ d) (hK : K + 1 ≤ mc) (hKm : mc ≤ Km) (hst : (st.map fun v => v.category).sum ≤ 8)
    (d0 : decode cc pc = .ok (.new 205, 3)) (d3 : decode cc (pc + 3) = .ok (.dup, 1)) (d4 : decode cc (pc + 4) = .ok (.ldc is, 2)) (d6 : decode cc (pc + 6) = .ok (.invokespecial 209, 3)) (d9 : decode cc (pc + 9) = .ok (.athrow, 1)) : wt_V X K σ pc lv st := by
  intro H locs ls ce sl h1 h2 hw hS hl
  obtain ⟨hx0, hb, hml, hn, hown, hts, hKK, hN, r1, r2, r3, r4, hlk, hFX⟩ := id h
  obtain ⟨hr, hQ, hex, htr⟩ := hR
  obtain ⟨sa, hsa⟩ := hFX.2.1 _ (List.mem_of_getElem? hx)
  show W _ _ _ _ _ _ _ _ _ _ _ _ _ _ (wt_xQ X) _
  rw [hQ]
  refine vx_throwS (names := wt_nms) (cls := "java/lang/IndexOutOfBoundsException") (own := "WornType") (text := text) hx0 hb htr hown (by decide +kernel) (by decide +kernel) (hts _ wt_xkO) (hts _ wt_xiO) hsa (fun z hz => ?_) (fun z hz => ?_) hFX.2.2.2.2.1 hFX.2.2.2.2.2 hS (by rw [hl.1, hn, hml]) d0 d3 d4 d6 d9 (fun x hx => (hex x hx).elim) (by show 2 + 3 < _; omega) (by show _ + (13 * (2 + 1) + 43) ≤ _; omega) (by omega) (by omega) hlk (fun t _ g2 g3 => wt_xcOf (e := 3) (by decide) hw hS t g2 g3) hS.2.2 (by omega) (by omega)
  · rcases wt_xwO z hz with g | g
    · exact hts z g
    · exact wt_NWn hN g
  · rcases List.mem_cons.mp hz with e | hz
    · rw [e]; exact wt_ot (Or.inl wt_xkO)
    · rcases List.mem_cons.mp hz with e | hz
      · rw [e]; exact wt_ot (Or.inl wt_xiO)
      · exact wt_ot (wt_xwO z hz)
set_option maxHeartbeats 4000000 in
theorem wt_thrN {mc : Nat} {rt : Option FieldType} {r : Option Int32} (h : wt_Ok X cc nL "WornType" d Km) (hR : wt_RtX X rt mc 2 r σ) (h6 : 6 ≤ d) (hK : K + 1 ≤ mc) (hKm : mc ≤ Km) (hst : (st.map fun v => v.category).sum ≤ 8)
    (d0 : decode cc pc = .ok (.new 360, 3)) (d3 : decode cc (pc + 3) = .ok (.dup, 1)) (d4 : decode cc (pc + 4) = .ok (.ldc_w 362, 3)) (d7 : decode cc (pc + 7) = .ok (.invokespecial 364, 3)) (d10 : decode cc (pc + 10) = .ok (.athrow, 1)) : wt_V X K σ pc lv st := by
  intro H locs ls ce sl h1 h2 hw hS hl
  obtain ⟨hexec, hb, hml, hn, hown, hts, hKK, hN, r1, r2, r3, r4, hlocks, hFX⟩ := id h
  obtain ⟨hr, hQ, hex, htr0⟩ := hR
  obtain ⟨sa, hstr⟩ := hFX.2.1 _ (List.mem_of_getElem? (i := 6) (show wt_xlits[6]? = some _ from rfl))
  have hU := hFX.2.2.2.2.1
  have hNN := hFX.2.2.2.2.2
  have hgd : ∀ z ∈ wt_oaN, z.before (wt_xa X) (wt_xs X) = true := fun z hz => by
    rcases wt_xwN z hz with g | g
    · exact hts z g
    · exact wt_NWn hN g
  show W _ _ _ _ _ _ _ _ _ _ _ _ _ _ (wt_xQ X) _
  rw [hQ]
  intro T hT Y0
  have htr : (wt_xe X).platform.stackTraces = false := (show (wt_xe X).platform.stackTraces = (wt_xl X).stackTraces by rw [Y0.admits.platform]).trans htr0
  have Y := vx_rebase Y0 (R' := { frames := (wt_xR X).frames, locals := (wt_xR X).locals, cells := 1, slots := 6 }) (Nat.le_refl _) (Nat.le_refl _) (by show ce + 1 ≤ _; omega) (by show sl + 6 ≤ _; omega)
  obtain ⟨s', hA⟩ : ∃ z, z = (T.setVm (wt_xs X).vm).setFrames (.invoking (wt_xm X) (wt_xa X) :: (wt_xb X)) := ⟨_, rfl⟩
  rw [← hA] at Y
  have hvm : s'.vm = (wt_xs X).vm := by rw [hA]; rfl
  have hhp : s'.heap = H := by rw [hA]; exact hT
  have hW0 : (wt_xs X).WarmedH s'.vm := by rw [hvm]; exact State.WarmedH.refl _
  have hat' : ∀ w ∈ wt_oaN, w.before (wt_xa X) s' = true := fun w hw => vx_ot_at hW0 hvm.symm (wt_ot (wt_xwN w hw)) (hgd w hw)
  have hk' : (Cond.classLink "WornType" 360 "java/util/NoSuchElementException").before (wt_xa X) s' = true := vx_ot_at hW0 hvm.symm (wt_ot (Or.inl wt_xkN)) (hts _ wt_xkN)
  have hini' : (Cond.initialized "java/util/NoSuchElementException").before (wt_xa X) s' = true := vx_ot_at hW0 hvm.symm (wt_ot (Or.inl wt_xiN)) (hts _ wt_xiN)
  have hU' : vx_Zq Bundle.tN "UNASSIGNED_STACK" Bundle.steD (wt_A (wt_xw X) (wt_xs X).heap.size) s' s'.heap := by rw [hhp]; exact vx_Zq.moved hW0.alike (hU.kept hS.2.1)
  have hN' : vx_Zq Bundle.tN "SUPPRESSED_SENTINEL" Bundle.listD (wt_A (wt_xw X) (wt_xs X).heap.size) s' s'.heap := by rw [hhp]; exact vx_Zq.moved hW0.alike (hNN.kept hS.2.1)
  have hall0 : ∀ w ∈ wt_oaX "WornType" 364 "java/util/NoSuchElementException" "java/lang/RuntimeException" 13 prog_29_method_4_code ["java/lang/Exception"], w.before (wt_xa X) s' = true := vx_own hat' (vx_isRefq hU'.1) (vx_isRefq hN'.1) hU'.2.word hN'.2.word
  have hown' : s'.vm.findClass "WornType" = some (wt_xm X).cls := by rw [hvm]; exact hown
  have hins : (Cond.instantiable "java/util/NoSuchElementException" 6).before (wt_xa X) s' = true := hall0 _ (by simp [wt_oaX])
  obtain ⟨vm₁, cX, kX, hfX, hkX, -, -, X₁, st1⟩ := Y.newCold hexec (own := "WornType") (C := "java/util/NoSuchElementException") (index := 360) (n := 6) hown' hk' hins hini'
    (g := F0 (wt_xm X) pc ls st) rfl (by rw [hb]; exact d0) (Nat.le_refl _) (Nat.le_refl _)
  generalize hT1 : (T.setVm vm₁).pushCell { cls := cX, slots := kX.instanceTypes.map defaultValue, vm := .none } = T1 at X₁ st1
  have hcat : (Value.ref T.heap.size).category = 1 := rfl
  have hcellA : T1.heap[T.heap.size]? = some (freshCell cX kX) := by rw [← hT1]; exact State.heap_pushCell_size _ _
  have d3' : decode (wt_xc X).code (pc + 3) = .ok (.dup, 1) := by rw [hb]; exact d3
  have d4' : decode (wt_xc X).code (pc + 4) = .ok (.ldc_w 362, 3) := by rw [hb]; exact d4
  have hstr' : vk_R "WornType" 362 "no such word, text or page" sa s' := vk_R.warm hW0 hstr
  obtain ⟨U, hsteps, hrun, hend, hW, hsame, ce9, hce, hcl9, hvm9⟩ := wt_ctorX X₁ hexec htr (own := "WornType") (cls := "java/util/NoSuchElementException") (Yc := "java/lang/RuntimeException") (r := ["java/lang/Exception"]) (ic := 364) wt_nse0 wt_nse1 wt_nse2 wt_nse5 hown' (by decide +kernel) (by decide +kernel) (by decide +kernel) hall0 (fun x hx => nomatch hx) hfX hkX hcellA (by rw [hhp, hT]; exact Nat.le_refl _) (msg := .ref sa) rfl
    (g := { method := (wt_xm X), pc := pc + 7, locals := ls, stack := .ref sa :: .ref T.heap.size :: .ref T.heap.size :: st, locked := none }) rfl (by show ls.size = _; rw [hl.1, hn, hml]) rfl rfl (rest := st) rfl
    (by rw [hb]; exact d7) (by rw [hb]; exact d10) (fun x hx => (hex x hx).elim) (by show 1 + 1 + 3 < (wt_xR X).frames; omega) (by show 2 * 0 + _ + (13 * (1 + 1 + 1) + 42) ≤ (wt_xR X).locals; simp only [List.map_cons, List.sum_cons, hcat]; omega) hlocks
  obtain ⟨f1, f2⟩ := vx_frame hsame
  rw [hhp] at f1 f2
  have hWs : (wt_xs X).WarmedH U.vm := State.WarmedH.trans hW0 hW
  have hcl : (wt_xs X).vm.findClass "java/util/NoSuchElementException" = some ce9.cls := by
    rw [hvm] at hcl9
    exact hcl9
  have hall : (wt_xs X).sameButNew ({ U with vm := (wt_xs X).vm } : State) locs mc (16 * mc) := by
    subst hA
    obtain ⟨e1, e2⟩ := hsame
    rw [State.setFrames_setFrames] at e1
    have h2' : (T.setVm (wt_xs X).vm).sameButNew ({ U with vm := (wt_xs X).vm } : State) [] (0 + 1) (0 + 6) := ⟨e1, e2⟩
    have h3 := Y0.same.trans h2'
    rw [List.append_nil] at h3
    exact h3.mono (by omega) (by omega)
  refine ⟨U, ?_, .threw T.heap.size, hrun, hend, Or.inr ⟨T.heap.size, rfl, "java/util/NoSuchElementException", ce9, locs, wt_xcOf (e := 2) (by decide) hw hS U f1 (fun q hq => f2 q hq (fun z hz => nomatch hz)), hce, hvm9, hcl, hWs, hall, hS.2.2⟩⟩
  refine st1 _ ?_
  show Steps (wt_xp X).tables (wt_xe X) (wt_xb X) (T1.setTop { method := (wt_xm X), pc := pc + 3, locals := ls, stack := .ref T.heap.size :: st, locked := none }) _
  jvm_step X₁.here [X₁.here.top, hexec, d3', Value.category]
  exact X₁.ldcStringW hexec (own := "WornType") (text := "no such word, text or page") (index := 362) (a := sa) hown' hstr'.1 hstr'.2
    (g := { method := (wt_xm X), pc := pc + 4, locals := ls, stack := .ref T.heap.size :: .ref T.heap.size :: st, locked := none }) rfl d4' _ hsteps
def wt_MD (own : String) (idx : Nat) (y : MethodName) : Prop := Cond.methodLink own idx y ∈ wt_GT ∧ Cond.static y ∈ wt_GT ∧ Cond.initialized y.cls ∈ wt_GT
/-- a static callee that may throw; nothing here catches -/
theorem wt_callSX (h : wt_Ok X cc nL own d Km) {idx : Nat} {y : MethodName} {b : ByteArray} {n k dd mc' mc : Nat} {rt rt0 : Option FieldType} (As : List Value) {st0 : List Value} {e : Nat} {r : Option Int32} {σ' : wt_St} (mv : wt_MD own idx y) (hy : wt_Ya y b n rt k) (hc : wt_CtrX (wt_xl X) (wt_xw X) y b n rt dd mc' As σ e r σ') (hd1 : dd + 1 ≤ d) (hlen : As.length = k) (hst : As.reverse ++ st = st0) (hro : (st.map fun v => v.category).sum ≤ 8) (hK : K + mc' ≤ mc) (hKm : mc ≤ Km) (hd : decode cc pc = .ok (.invokestatic idx, 3))
    (kx : e ≠ 0 → ∃ r0, wt_RtX X rt0 mc e r0 σ') (kk : e = 0 → wt_V X (K + mc') σ' (pc + 3) lv ((r.map .int).toList ++ st)) : wt_V X K σ pc lv st0 := by
  intro H locs ls ce sl h1 h2 hw hS hl
  obtain ⟨hlink, hstt, hini⟩ := mv
  obtain ⟨hx, hb, hml, hn, hown, hts, hKK, hN, r1, r2, r3, r4, hlk, hFX⟩ := id h
  have hps : PreS (wt_xs X) H (wt_PcS (wt_xw X) wt_S0 As σ H.size) As := ⟨wt_blind _ wt_True_fx _ _ _, fun U hU hW => wt_pre wt_True_fx hKK hN hFX trivial hS hw hU hW⟩
  have hfix : CallFix (wt_xp X) (wt_xm X) (wt_xc X) cc nL (wt_xs X) (wt_xa X) wt_GT own := ⟨hx, hb, hml, hown, hts⟩
  have hsz : ls.size = nL := by rw [hl.1, hn]
  have hroo : (wt_rmX dd mc').frames + 1 ≤ (wt_xR X).frames ∧ 8 + (n + 11) + (wt_rmX dd mc').locals ≤ (wt_xR X).locals := by
    have := hy.2.2
    exact ⟨by show dd + 1 ≤ _; omega, by show 8 + (n + 11) + 64 * dd ≤ _; omega⟩
  · have hrun := vx_runS hfix (hc H.size) ⟨callB_of k hts (wt_goodG h hy.2.1) rfl rfl rfl (hts _ hini) (hts _ hlink) hy.1 hroo, hts _ hstt⟩ hps (g := F0 (wt_xm X) pc ls st0) (rest := st) (l := wt_xl X) (e := wt_xe X) (below := wt_xb X) (meth := wt_xM X) (locs := locs) (cells := ce) (slots := sl) rfl hlen hsz hst.symm (lv_room hro) hd ⟨by omega, by omega⟩
    have hAA : ∀ q : Nat, wt_A (wt_xw X) H.size q → wt_A (wt_xw X) (wt_xs X).heap.size q := fun q hq => hq.elim Or.inl (fun z => Or.inr (Nat.le_trans hS.1 z))
    have hjoin : ∀ {st₀ t T' : State} {L : List Loc}, st₀.heap = H → T'.heap = t.heap → va_F (wt_A (wt_xw X) H.size) st₀ t → (∀ q ∈ L, wt_A (wt_xw X) H.size q.base) → va_S (wt_A (wt_xw X) (wt_xs X).heap.size) (wt_xs X).heap T'.heap (locs ++ L) := by
      intro st₀ t T' L h0 e1 ⟨hz, hk⟩ hL
      rw [h0] at hz hk
      refine ⟨Nat.le_trans hS.1 (by rw [e1]; exact hz), fun q g1 g2 => ?_, fun q hq => ?_⟩
      · rw [e1, hk q (Nat.lt_of_lt_of_le g1 hS.1) (fun z => g2 (hAA q z))]
        exact hS.2.1 q g1 g2
      · rcases List.mem_append.mp hq with g | g
        · exact hS.2.2 q g
        · exact hAA _ (hL q g)
    intro T hT Y
    rcases hrun T hT Y with ⟨v, st₀, t, T', L, h0, Y', hL, e1, e2, ⟨he, ⟨hv, hbo, hwd⟩, hF⟩, stp⟩ | ⟨q, st₀, t, T', L, E, ce9, h0, Y', hL, e1, e2, ⟨he, hE, hwd, hF⟩, g1, g2, g3, stp⟩
    · have hv2 : v = r.map .int := Outcome.returned.inj hv
      subst hv2
      obtain ⟨t2, a1, b1⟩ := kk he T'.heap (locs ++ L) ls (ce + mc') (sl + 16 * mc') (by omega) (by omega) (by rw [e1]; exact hwd) (hjoin h0 e1 hF hL) hl T' rfl Y'
      exact ⟨t2, stp t2 a1, b1⟩
    · obtain ⟨r0, hR⟩ := kx he
      obtain ⟨hr, hQ, hex, htr⟩ := hR
      have hS2 := hjoin h0 e1 hF hL
      have hwd2 : wt_Wd (wt_xw X) σ' T'.heap := by rw [e1]; exact hwd
      subst hE
      have ho : vx_W (wt_xp X) (wt_xl X) (wt_xe X) (wt_xR X) (wt_xs X) (wt_xm X) (wt_xa X) (wt_xb X) (wt_xM X) (wt_xc X) T'.heap (locs ++ L) (ce + mc') (sl + 16 * mc') (wt_xQ X) (F0 (wt_xm X) pc ls st) q := by
        rw [hQ]
        exact vx_out (fun x hx => (hex x hx).elim) hlk (by rw [e1]; exact g1) g2 g3 (fun t0 ht0 _ => wt_xcOf he hwd2 hS2 t0 (by rw [ht0]; exact Nat.le_refl _) (fun q _ => by rw [ht0])) hS2.2.2 (by omega) (by omega)
      obtain ⟨t2, a1, b1⟩ := ho T' rfl Y'
      exact ⟨t2, stp.trans a1, b1⟩
theorem wt_callSXv (h : wt_Ok X cc nL own d Km) {idx : Nat} {y : MethodName} {b : ByteArray} {n k dd mc' mc : Nat} {rt rt0 : Option FieldType} (As : List Value) {st0 : List Value} {e : Nat} {σ' : wt_St} (mv : wt_MD own idx y) (hy : wt_Ya y b n rt k) (hc : wt_CtrX (wt_xl X) (wt_xw X) y b n rt dd mc' As σ e none σ') (hd1 : dd + 1 ≤ d) (hlen : As.length = k) (hst : As.reverse ++ st = st0) (hro : (st.map fun v => v.category).sum ≤ 8) (hK : K + mc' ≤ mc) (hKm : mc ≤ Km) (hd : decode cc pc = .ok (.invokestatic idx, 3))
    (kx : e ≠ 0 → ∃ r0, wt_RtX X rt0 mc e r0 σ') (kk : e = 0 → wt_V X (K + mc') σ' (pc + 3) lv st) : wt_V X K σ pc lv st0 := wt_callSX h As mv hy hc hd1 hlen hst hro hK hKm hd kx kk
end WX1
end WTQ2
