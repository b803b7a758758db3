def wb16m6_prog_13_method_52_code_r3 : List (List Nat) := [46, 42, 180, 0, 50, 29, 46, 164, 0, 6, 21, 5, 62, 132, 4, 1, 167, 255, 159, 29, 172] :: []
def wb16m6_prog_13_method_52_code_r2 : List (List Nat) := [154, 0, 22, 42, 180, 0, 50, 21, 5, 46, 42, 180, 0, 50, 29, 46, 162, 0, 25, 167, 0, 19, 42, 180, 0, 50, 21, 5] :: wb16m6_prog_13_method_52_code_r3
def wb16m6_prog_13_method_52_code_r1 : List (List Nat) := [21, 5, 46, 2, 160, 0, 67, 42, 180, 0, 50, 21, 5, 46, 28, 162, 0, 6, 167, 0, 53, 29, 2, 159, 0, 45, 42, 180, 1, 21] :: wb16m6_prog_13_method_52_code_r2
def wb16m6_prog_13_method_52_code_r0 : List (List Nat) := [2, 62, 3, 54, 4, 21, 4, 42, 180, 0, 20, 27, 46, 162, 0, 92, 27, 21, 4, 184, 0, 227, 54, 5, 42, 180, 0, 59] :: wb16m6_prog_13_method_52_code_r1
set_option maxRecDepth 100000 in
theorem wb16m6_prog_13_method_52_code_c0 : wt_cs prog_13_method_52_code 0 wb16m6_prog_13_method_52_code_r0 := wt_cs_of (by decide +kernel)
theorem wb16m6_prog_13_method_52_code_c1 : wt_cs prog_13_method_52_code 28 wb16m6_prog_13_method_52_code_r1 := wt_cs_tl (m := 28) wb16m6_prog_13_method_52_code_c0 rfl rfl
theorem wb16m6_prog_13_method_52_code_c2 : wt_cs prog_13_method_52_code 58 wb16m6_prog_13_method_52_code_r2 := wt_cs_tl (m := 30) wb16m6_prog_13_method_52_code_c1 rfl rfl
theorem wb16m6_prog_13_method_52_code_c3 : wt_cs prog_13_method_52_code 86 wb16m6_prog_13_method_52_code_r3 := wt_cs_tl (m := 28) wb16m6_prog_13_method_52_code_c2 rfl rfl
theorem wp_md_nextPiece_d0 : decode prog_13_method_52_code 0 = .ok (.iconst (-1), 1) := wt_op2 wb16m6_prog_13_method_52_code_c0 0 rfl rfl
theorem wp_md_nextPiece_d1 : decode prog_13_method_52_code 1 = .ok (.istore_n 3, 1) := wt_op62 wb16m6_prog_13_method_52_code_c0 1 rfl rfl
theorem wp_md_nextPiece_d2 : decode prog_13_method_52_code 2 = .ok (.iconst 0, 1) := wt_op3 wb16m6_prog_13_method_52_code_c0 2 rfl rfl
theorem wp_md_nextPiece_d3 : decode prog_13_method_52_code 3 = .ok (.istore 4, 2) := wt_op54 wb16m6_prog_13_method_52_code_c0 3 rfl rfl
theorem wp_md_nextPiece_d5 : decode prog_13_method_52_code 5 = .ok (.iload 4, 2) := wt_op21 wb16m6_prog_13_method_52_code_c0 5 rfl rfl
theorem wp_md_nextPiece_d7 : decode prog_13_method_52_code 7 = .ok (.aload_n 0, 1) := wt_op42 wb16m6_prog_13_method_52_code_c0 7 rfl rfl
theorem wp_md_nextPiece_d8 : decode prog_13_method_52_code 8 = .ok (.getfield 20, 3) := wt_op180 wb16m6_prog_13_method_52_code_c0 8 rfl rfl rfl
theorem wp_md_nextPiece_d11 : decode prog_13_method_52_code 11 = .ok (.iload_n 1, 1) := wt_op27 wb16m6_prog_13_method_52_code_c0 11 rfl rfl
theorem wp_md_nextPiece_d12 : decode prog_13_method_52_code 12 = .ok (.iaload, 1) := wt_op46 wb16m6_prog_13_method_52_code_c0 12 rfl rfl
theorem wp_md_nextPiece_d13 : decode prog_13_method_52_code 13 = .ok (.if_icmp .ge 92, 3) := wt_op162 wb16m6_prog_13_method_52_code_c0 13 rfl rfl rfl
theorem wp_md_nextPiece_d16 : decode prog_13_method_52_code 16 = .ok (.iload_n 1, 1) := wt_op27 wb16m6_prog_13_method_52_code_c0 16 rfl rfl
theorem wp_md_nextPiece_d17 : decode prog_13_method_52_code 17 = .ok (.iload 4, 2) := wt_op21 wb16m6_prog_13_method_52_code_c0 17 rfl rfl
theorem wp_md_nextPiece_d19 : decode prog_13_method_52_code 19 = .ok (.invokestatic 227, 3) := wt_op184 wb16m6_prog_13_method_52_code_c0 19 rfl rfl rfl
theorem wp_md_nextPiece_d22 : decode prog_13_method_52_code 22 = .ok (.istore 5, 2) := wt_op54 wb16m6_prog_13_method_52_code_c0 22 rfl rfl
theorem wp_md_nextPiece_d24 : decode prog_13_method_52_code 24 = .ok (.aload_n 0, 1) := wt_op42 wb16m6_prog_13_method_52_code_c0 24 rfl rfl
theorem wp_md_nextPiece_d25 : decode prog_13_method_52_code 25 = .ok (.getfield 59, 3) := wt_op180 wb16m6_prog_13_method_52_code_c0 25 rfl rfl rfl
theorem wp_md_nextPiece_d28 : decode prog_13_method_52_code 28 = .ok (.iload 5, 2) := wt_op21 wb16m6_prog_13_method_52_code_c1 0 rfl rfl
theorem wp_md_nextPiece_d30 : decode prog_13_method_52_code 30 = .ok (.iaload, 1) := wt_op46 wb16m6_prog_13_method_52_code_c1 2 rfl rfl
theorem wp_md_nextPiece_d31 : decode prog_13_method_52_code 31 = .ok (.iconst (-1), 1) := wt_op2 wb16m6_prog_13_method_52_code_c1 3 rfl rfl
theorem wp_md_nextPiece_d32 : decode prog_13_method_52_code 32 = .ok (.if_icmp .ne 67, 3) := wt_op160 wb16m6_prog_13_method_52_code_c1 4 rfl rfl rfl
theorem wp_md_nextPiece_d35 : decode prog_13_method_52_code 35 = .ok (.aload_n 0, 1) := wt_op42 wb16m6_prog_13_method_52_code_c1 7 rfl rfl
theorem wp_md_nextPiece_d36 : decode prog_13_method_52_code 36 = .ok (.getfield 50, 3) := wt_op180 wb16m6_prog_13_method_52_code_c1 8 rfl rfl rfl
theorem wp_md_nextPiece_d39 : decode prog_13_method_52_code 39 = .ok (.iload 5, 2) := wt_op21 wb16m6_prog_13_method_52_code_c1 11 rfl rfl
theorem wp_md_nextPiece_d41 : decode prog_13_method_52_code 41 = .ok (.iaload, 1) := wt_op46 wb16m6_prog_13_method_52_code_c1 13 rfl rfl
theorem wp_md_nextPiece_d42 : decode prog_13_method_52_code 42 = .ok (.iload_n 2, 1) := wt_op28 wb16m6_prog_13_method_52_code_c1 14 rfl rfl
theorem wp_md_nextPiece_d43 : decode prog_13_method_52_code 43 = .ok (.if_icmp .ge 6, 3) := wt_op162 wb16m6_prog_13_method_52_code_c1 15 rfl rfl rfl
theorem wp_md_nextPiece_d46 : decode prog_13_method_52_code 46 = .ok (.goto 53, 3) := wt_op167 wb16m6_prog_13_method_52_code_c1 18 rfl rfl rfl
theorem wp_md_nextPiece_d49 : decode prog_13_method_52_code 49 = .ok (.iload_n 3, 1) := wt_op29 wb16m6_prog_13_method_52_code_c1 21 rfl rfl
theorem wp_md_nextPiece_d50 : decode prog_13_method_52_code 50 = .ok (.iconst (-1), 1) := wt_op2 wb16m6_prog_13_method_52_code_c1 22 rfl rfl
theorem wp_md_nextPiece_d51 : decode prog_13_method_52_code 51 = .ok (.if_icmp .eq 45, 3) := wt_op159 wb16m6_prog_13_method_52_code_c1 23 rfl rfl rfl
theorem wp_md_nextPiece_d54 : decode prog_13_method_52_code 54 = .ok (.aload_n 0, 1) := wt_op42 wb16m6_prog_13_method_52_code_c1 26 rfl rfl
theorem wp_md_nextPiece_d55 : decode prog_13_method_52_code 55 = .ok (.getfield 277, 3) := wt_op180 wb16m6_prog_13_method_52_code_c1 27 rfl rfl rfl
theorem wp_md_nextPiece_d58 : decode prog_13_method_52_code 58 = .ok (.ifCond .ne 22, 3) := wt_op154 wb16m6_prog_13_method_52_code_c2 0 rfl rfl rfl
theorem wp_md_nextPiece_d61 : decode prog_13_method_52_code 61 = .ok (.aload_n 0, 1) := wt_op42 wb16m6_prog_13_method_52_code_c2 3 rfl rfl
theorem wp_md_nextPiece_d62 : decode prog_13_method_52_code 62 = .ok (.getfield 50, 3) := wt_op180 wb16m6_prog_13_method_52_code_c2 4 rfl rfl rfl
theorem wp_md_nextPiece_d65 : decode prog_13_method_52_code 65 = .ok (.iload 5, 2) := wt_op21 wb16m6_prog_13_method_52_code_c2 7 rfl rfl
theorem wp_md_nextPiece_d67 : decode prog_13_method_52_code 67 = .ok (.iaload, 1) := wt_op46 wb16m6_prog_13_method_52_code_c2 9 rfl rfl
theorem wp_md_nextPiece_d68 : decode prog_13_method_52_code 68 = .ok (.aload_n 0, 1) := wt_op42 wb16m6_prog_13_method_52_code_c2 10 rfl rfl
theorem wp_md_nextPiece_d69 : decode prog_13_method_52_code 69 = .ok (.getfield 50, 3) := wt_op180 wb16m6_prog_13_method_52_code_c2 11 rfl rfl rfl
theorem wp_md_nextPiece_d72 : decode prog_13_method_52_code 72 = .ok (.iload_n 3, 1) := wt_op29 wb16m6_prog_13_method_52_code_c2 14 rfl rfl
theorem wp_md_nextPiece_d73 : decode prog_13_method_52_code 73 = .ok (.iaload, 1) := wt_op46 wb16m6_prog_13_method_52_code_c2 15 rfl rfl
theorem wp_md_nextPiece_d74 : decode prog_13_method_52_code 74 = .ok (.if_icmp .ge 25, 3) := wt_op162 wb16m6_prog_13_method_52_code_c2 16 rfl rfl rfl
theorem wp_md_nextPiece_d77 : decode prog_13_method_52_code 77 = .ok (.goto 19, 3) := wt_op167 wb16m6_prog_13_method_52_code_c2 19 rfl rfl rfl
theorem wp_md_nextPiece_d80 : decode prog_13_method_52_code 80 = .ok (.aload_n 0, 1) := wt_op42 wb16m6_prog_13_method_52_code_c2 22 rfl rfl
theorem wp_md_nextPiece_d81 : decode prog_13_method_52_code 81 = .ok (.getfield 50, 3) := wt_op180 wb16m6_prog_13_method_52_code_c2 23 rfl rfl rfl
theorem wp_md_nextPiece_d84 : decode prog_13_method_52_code 84 = .ok (.iload 5, 2) := wt_op21 wb16m6_prog_13_method_52_code_c2 26 rfl rfl
theorem wp_md_nextPiece_d86 : decode prog_13_method_52_code 86 = .ok (.iaload, 1) := wt_op46 wb16m6_prog_13_method_52_code_c3 0 rfl rfl
theorem wp_md_nextPiece_d87 : decode prog_13_method_52_code 87 = .ok (.aload_n 0, 1) := wt_op42 wb16m6_prog_13_method_52_code_c3 1 rfl rfl
theorem wp_md_nextPiece_d88 : decode prog_13_method_52_code 88 = .ok (.getfield 50, 3) := wt_op180 wb16m6_prog_13_method_52_code_c3 2 rfl rfl rfl
theorem wp_md_nextPiece_d91 : decode prog_13_method_52_code 91 = .ok (.iload_n 3, 1) := wt_op29 wb16m6_prog_13_method_52_code_c3 5 rfl rfl
theorem wp_md_nextPiece_d92 : decode prog_13_method_52_code 92 = .ok (.iaload, 1) := wt_op46 wb16m6_prog_13_method_52_code_c3 6 rfl rfl
theorem wp_md_nextPiece_d93 : decode prog_13_method_52_code 93 = .ok (.if_icmp .le 6, 3) := wt_op164 wb16m6_prog_13_method_52_code_c3 7 rfl rfl rfl
theorem wp_md_nextPiece_d96 : decode prog_13_method_52_code 96 = .ok (.iload 5, 2) := wt_op21 wb16m6_prog_13_method_52_code_c3 10 rfl rfl
theorem wp_md_nextPiece_d98 : decode prog_13_method_52_code 98 = .ok (.istore_n 3, 1) := wt_op62 wb16m6_prog_13_method_52_code_c3 12 rfl rfl
theorem wp_md_nextPiece_d99 : decode prog_13_method_52_code 99 = .ok (.iinc 4 1, 3) := wt_op132 wb16m6_prog_13_method_52_code_c3 13 rfl rfl rfl
theorem wp_md_nextPiece_d102 : decode prog_13_method_52_code 102 = .ok (.goto (-97), 3) := wt_op167 wb16m6_prog_13_method_52_code_c3 16 rfl rfl rfl
theorem wp_md_nextPiece_d105 : decode prog_13_method_52_code 105 = .ok (.iload_n 3, 1) := wt_op29 wb16m6_prog_13_method_52_code_c3 19 rfl rfl
theorem wp_md_nextPiece_d106 : decode prog_13_method_52_code 106 = .ok (.ireturn, 1) := wt_op172 wb16m6_prog_13_method_52_code_c3 20 rfl rfl
noncomputable def wp_md_nextPiece_B99 (n : Nat) (x1 : Int32) (x2 : Int32) (x3 : Int32) (x4 : Int32) (K5 : Int32 × Int32 × wt_St → Option (Int32 × wt_St)) (σ : wt_St) : Option (Int32 × wt_St) :=
  K5 (x3, (x4 + (1 : Int32)), σ)
set_option maxRecDepth 100000 in
set_option maxHeartbeats 4000000 in
theorem wp_md_nextPiece_B99_ok  {x1 : Int32} {x2 : Int32} {x3 : Int32} {x4 : Int32} {X : wt_X} {n : Nat} {res : Int32 × wt_St} (hE : wt_Ok X prog_13_method_52_code 6 "WornTypeModel" 1 0) (hR : wt_Rt X (some .int) (some res.1) res.2) (hD : ∀ i, 108 ≤ i → i < 321 → wt_dom (wt_xw X) i)  {K5 : Int32 × Int32 × wt_St → Option (Int32 × wt_St)} (hK5 : ∀ s : Int32 × Int32 × wt_St, K5 s = some res → wt_V X 0 s.2.2 5 [some (.ref (wt_ad (wt_xw X) 108)), some (.int x1), some (.int x2), some (.int s.1), some (.int s.2.1), none] []) {σ : wt_St} (h : wp_md_nextPiece_B99 n x1 x2 x3 x4 K5 σ = some res) : wt_V X 0 σ 99 [some (.ref (wt_ad (wt_xw X) 108)), some (.int x1), some (.int x2), some (.int x3), some (.int x4), none] [] := by
  unfold wp_md_nextPiece_B99 at h
  refine wt_iinc hE (x4 + (1 : Int32)) [some (.ref (wt_ad (wt_xw X) 108)), some (.int x1), some (.int x2), some (.int x3), some (.int (x4 + (1 : Int32))), none] wp_md_nextPiece_d99 (by decide) rfl rfl rfl ?_
  refine wt_goto hE 5 wp_md_nextPiece_d102 rfl ?_
  exact hK5 (x3, (x4 + (1 : Int32)), σ) h
noncomputable def wp_md_nextPiece_B96 (n : Nat) (x1 : Int32) (x2 : Int32) (x4 : Int32) (x5 : Int32) (K5 : Int32 × Int32 × wt_St → Option (Int32 × wt_St)) (σ : wt_St) : Option (Int32 × wt_St) :=
  wp_md_nextPiece_B99 n x1 x2 x5 x4 K5 σ
set_option maxRecDepth 100000 in
set_option maxHeartbeats 4000000 in
theorem wp_md_nextPiece_B96_ok  {x1 : Int32} {x2 : Int32} {x4 : Int32} {x5 : Int32} {X : wt_X} {n : Nat} {res : Int32 × wt_St} (hE : wt_Ok X prog_13_method_52_code 6 "WornTypeModel" 1 0) (hR : wt_Rt X (some .int) (some res.1) res.2) (hD : ∀ i, 108 ≤ i → i < 321 → wt_dom (wt_xw X) i)  {K5 : Int32 × Int32 × wt_St → Option (Int32 × wt_St)} (hK5 : ∀ s : Int32 × Int32 × wt_St, K5 s = some res → wt_V X 0 s.2.2 5 [some (.ref (wt_ad (wt_xw X) 108)), some (.int x1), some (.int x2), some (.int s.1), some (.int s.2.1), none] []) {σ : wt_St} (h : wp_md_nextPiece_B96 n x1 x2 x4 x5 K5 σ = some res) : wt_V X 0 σ 96 [some (.ref (wt_ad (wt_xw X) 108)), some (.int x1), some (.int x2), none, some (.int x4), some (.int x5)] [] := by
  unfold wp_md_nextPiece_B96 at h
  refine wt_iload hE wp_md_nextPiece_d96 rfl ?_
  refine wt_istore_n hE [some (.ref (wt_ad (wt_xw X) 108)), some (.int x1), some (.int x2), some (.int x5), some (.int x4), some (.int x5)] wp_md_nextPiece_d98 (by decide) rfl ?_
  refine wt_wk [true, true, true, true, true, false] rfl ?_
  exact wp_md_nextPiece_B99_ok hE hR hD hK5 h
noncomputable def wp_md_nextPiece_B5 (n : Nat) (x1 : Int32) (x2 : Int32) (K5 : Int32 × Int32 × wt_St → Option (Int32 × wt_St)) (s : Int32 × Int32 × wt_St) : Option (Int32 × wt_St) :=
  if x1 < 0 ∨ 26 ≤ Int32.toNatClampNeg x1 then none else
  if (wt_ga s.2.2 111 (Int32.toNatClampNeg x1)) ≤ s.2.1 then
    some (s.1, s.2.2)
  else
    (wp_md_cell n x1 s.2.1 s.2.2).bind fun q3 =>
    if q3.1 < 0 ∨ 338 ≤ Int32.toNatClampNeg q3.1 then none else
    if (wt_ga q3.2 124 (Int32.toNatClampNeg q3.1)) = (-1 : Int32) then
      if q3.1 < 0 ∨ 338 ≤ Int32.toNatClampNeg q3.1 then none else
      if x2 ≤ (wt_ga q3.2 121 (Int32.toNatClampNeg q3.1)) then
        if s.1 = (-1 : Int32) then
          wp_md_nextPiece_B96 n x1 x2 s.2.1 q3.1 K5 q3.2
        else
          if (wt_gf q3.2 108 26) = 0 then
            if q3.1 < 0 ∨ 338 ≤ Int32.toNatClampNeg q3.1 then none else
            if s.1 < 0 ∨ 338 ≤ Int32.toNatClampNeg s.1 then none else
            if (wt_ga q3.2 121 (Int32.toNatClampNeg s.1)) ≤ (wt_ga q3.2 121 (Int32.toNatClampNeg q3.1)) then
              wp_md_nextPiece_B99 n x1 x2 s.1 s.2.1 K5 q3.2
            else
              wp_md_nextPiece_B96 n x1 x2 s.2.1 q3.1 K5 q3.2
          else
            if q3.1 < 0 ∨ 338 ≤ Int32.toNatClampNeg q3.1 then none else
            if s.1 < 0 ∨ 338 ≤ Int32.toNatClampNeg s.1 then none else
            if (wt_ga q3.2 121 (Int32.toNatClampNeg q3.1)) ≤ (wt_ga q3.2 121 (Int32.toNatClampNeg s.1)) then
              wp_md_nextPiece_B99 n x1 x2 s.1 s.2.1 K5 q3.2
            else
              wp_md_nextPiece_B96 n x1 x2 s.2.1 q3.1 K5 q3.2
      else
        wp_md_nextPiece_B99 n x1 x2 s.1 s.2.1 K5 q3.2
    else
      wp_md_nextPiece_B99 n x1 x2 s.1 s.2.1 K5 q3.2
set_option maxRecDepth 100000 in
set_option maxHeartbeats 4000000 in
theorem wp_md_nextPiece_B5_ok  {x1 : Int32} {x2 : Int32} {X : wt_X} {n : Nat} {res : Int32 × wt_St} (hE : wt_Ok X prog_13_method_52_code 6 "WornTypeModel" 1 0) (hR : wt_Rt X (some .int) (some res.1) res.2) (hD : ∀ i, 108 ≤ i → i < 321 → wt_dom (wt_xw X) i)  {K5 : Int32 × Int32 × wt_St → Option (Int32 × wt_St)} (hK5 : ∀ s : Int32 × Int32 × wt_St, K5 s = some res → wt_V X 0 s.2.2 5 [some (.ref (wt_ad (wt_xw X) 108)), some (.int x1), some (.int x2), some (.int s.1), some (.int s.2.1), none] []) {s : Int32 × Int32 × wt_St} (h : wp_md_nextPiece_B5 n x1 x2 K5 s = some res) : wt_V X 0 s.2.2 5 [some (.ref (wt_ad (wt_xw X) 108)), some (.int x1), some (.int x2), some (.int s.1), some (.int s.2.1), none] [] := by
  unfold wp_md_nextPiece_B5 at h
  refine wt_iload hE wp_md_nextPiece_d5 rfl ?_
  refine wt_aload_n hE wp_md_nextPiece_d7 rfl ?_
  refine wt_getr hE (r := 111) wt_lf_md_20 (hD 108 (by decide) (by decide)) wt_L108 rfl wp_md_nextPiece_d8 ?_
  refine wt_iload_n hE wp_md_nextPiece_d11 rfl ?_
  obtain ⟨g1, h⟩ := wt_gd h
  refine wt_iald hE (hD 111 (by decide) (by decide)) wt_L111 g1 wp_md_nextPiece_d12 ?_
  refine wt_icmp_ge hE 105 wp_md_nextPiece_d13 rfl (fun c2 => ?_) (fun c2 => ?_)
  · have h := wt_ip c2 h
    refine wt_iload_n hE wp_md_nextPiece_d105 rfl ?_
    cases h
    exact wt_iret hE hR wp_md_nextPiece_d106
  · have h := wt_in c2 h
    refine wt_iload_n hE wp_md_nextPiece_d16 rfl ?_
    refine wt_iload hE wp_md_nextPiece_d17 rfl ?_
    obtain ⟨q3, hq3, h⟩ := wt_bi h
    refine wt_callSi hE [.int x1, .int s.2.1] wt_lm_md_227 wt_ya_md_cell (wp_md_cell_ok hq3) (by omega) rfl rfl (Nat.le_of_ble_eq_true rfl) (Nat.zero_le _) wp_md_nextPiece_d19 (fun hbq3 => ?_)
    refine wt_istore hE [some (.ref (wt_ad (wt_xw X) 108)), some (.int x1), some (.int x2), some (.int s.1), some (.int s.2.1), some (.int q3.1)] wp_md_nextPiece_d22 (Nat.le_of_ble_eq_true rfl) rfl ?_
    refine wt_aload_n hE wp_md_nextPiece_d24 rfl ?_
    refine wt_getr hE (r := 124) wt_lf_md_59 (hD 108 (by decide) (by decide)) wt_L108 rfl wp_md_nextPiece_d25 ?_
    refine wt_iload hE wp_md_nextPiece_d28 rfl ?_
    obtain ⟨g4, h⟩ := wt_gd h
    refine wt_iald hE (hD 124 (by decide) (by decide)) wt_L124 g4 wp_md_nextPiece_d30 ?_
    refine wt_iconst hE (-1 : Int32) wp_md_nextPiece_d31 wt_ci_m1 ?_
    refine wt_icmp_ne hE 99 wp_md_nextPiece_d32 rfl (fun c5 => ?_) (fun c5 => ?_)
    · have h := wt_in c5 h
      refine wt_wk [true, true, true, true, true, false] rfl ?_
      exact wp_md_nextPiece_B99_ok hE hR hD hK5 h
    · have h := wt_ip c5 h
      refine wt_aload_n hE wp_md_nextPiece_d35 rfl ?_
      refine wt_getr hE (r := 121) wt_lf_md_50 (hD 108 (by decide) (by decide)) wt_L108 rfl wp_md_nextPiece_d36 ?_
      refine wt_iload hE wp_md_nextPiece_d39 rfl ?_
      obtain ⟨g6, h⟩ := wt_gd h
      refine wt_iald hE (hD 121 (by decide) (by decide)) wt_L121 g6 wp_md_nextPiece_d41 ?_
      refine wt_iload_n hE wp_md_nextPiece_d42 rfl ?_
      refine wt_icmp_ge hE 49 wp_md_nextPiece_d43 rfl (fun c7 => ?_) (fun c7 => ?_)
      · have h := wt_ip c7 h
        refine wt_iload_n hE wp_md_nextPiece_d49 rfl ?_
        refine wt_iconst hE (-1 : Int32) wp_md_nextPiece_d50 wt_ci_m1 ?_
        refine wt_icmp_eq hE 96 wp_md_nextPiece_d51 rfl (fun c8 => ?_) (fun c8 => ?_)
        · have h := wt_ip c8 h
          refine wt_wk [true, true, true, false, true, true] rfl ?_
          exact wp_md_nextPiece_B96_ok hE hR hD hK5 h
        · have h := wt_in c8 h
          refine wt_aload_n hE wp_md_nextPiece_d54 rfl ?_
          refine wt_geti hE wt_lf_md_277 (hD 108 (by decide) (by decide)) wt_L108 rfl wp_md_nextPiece_d55 ?_
          refine wt_if_ne hE 80 wp_md_nextPiece_d58 rfl (fun c9 => ?_) (fun c9 => ?_)
          · have h := wt_in c9 h
            refine wt_aload_n hE wp_md_nextPiece_d80 rfl ?_
            refine wt_getr hE (r := 121) wt_lf_md_50 (hD 108 (by decide) (by decide)) wt_L108 rfl wp_md_nextPiece_d81 ?_
            refine wt_iload hE wp_md_nextPiece_d84 rfl ?_
            obtain ⟨g10, h⟩ := wt_gd h
            refine wt_iald hE (hD 121 (by decide) (by decide)) wt_L121 g10 wp_md_nextPiece_d86 ?_
            refine wt_aload_n hE wp_md_nextPiece_d87 rfl ?_
            refine wt_getr hE (r := 121) wt_lf_md_50 (hD 108 (by decide) (by decide)) wt_L108 rfl wp_md_nextPiece_d88 ?_
            refine wt_iload_n hE wp_md_nextPiece_d91 rfl ?_
            obtain ⟨g11, h⟩ := wt_gd h
            refine wt_iald hE (hD 121 (by decide) (by decide)) wt_L121 g11 wp_md_nextPiece_d92 ?_
            refine wt_icmp_le hE 99 wp_md_nextPiece_d93 rfl (fun c12 => ?_) (fun c12 => ?_)
            · have h := wt_ip c12 h
              refine wt_wk [true, true, true, true, true, false] rfl ?_
              exact wp_md_nextPiece_B99_ok hE hR hD hK5 h
            · have h := wt_in c12 h
              refine wt_wk [true, true, true, false, true, true] rfl ?_
              exact wp_md_nextPiece_B96_ok hE hR hD hK5 h
          · have h := wt_ip c9 h
            refine wt_aload_n hE wp_md_nextPiece_d61 rfl ?_
            refine wt_getr hE (r := 121) wt_lf_md_50 (hD 108 (by decide) (by decide)) wt_L108 rfl wp_md_nextPiece_d62 ?_
            refine wt_iload hE wp_md_nextPiece_d65 rfl ?_
            obtain ⟨g13, h⟩ := wt_gd h
            refine wt_iald hE (hD 121 (by decide) (by decide)) wt_L121 g13 wp_md_nextPiece_d67 ?_
            refine wt_aload_n hE wp_md_nextPiece_d68 rfl ?_
            refine wt_getr hE (r := 121) wt_lf_md_50 (hD 108 (by decide) (by decide)) wt_L108 rfl wp_md_nextPiece_d69 ?_
            refine wt_iload_n hE wp_md_nextPiece_d72 rfl ?_
            obtain ⟨g14, h⟩ := wt_gd h
            refine wt_iald hE (hD 121 (by decide) (by decide)) wt_L121 g14 wp_md_nextPiece_d73 ?_
            refine wt_icmp_ge hE 99 wp_md_nextPiece_d74 rfl (fun c15 => ?_) (fun c15 => ?_)
            · have h := wt_ip c15 h
              refine wt_wk [true, true, true, true, true, false] rfl ?_
              exact wp_md_nextPiece_B99_ok hE hR hD hK5 h
            · have h := wt_in c15 h
              refine wt_goto hE 96 wp_md_nextPiece_d77 rfl ?_
              refine wt_wk [true, true, true, false, true, true] rfl ?_
              exact wp_md_nextPiece_B96_ok hE hR hD hK5 h
      · have h := wt_in c7 h
        refine wt_goto hE 99 wp_md_nextPiece_d46 rfl ?_
        refine wt_wk [true, true, true, true, true, false] rfl ?_
        exact wp_md_nextPiece_B99_ok hE hR hD hK5 h
noncomputable def wp_md_nextPiece (n : Nat) (x1 : Int32) (x2 : Int32) (σ : wt_St) : Option (Int32 × wt_St) :=
  wt_it (wp_md_nextPiece_B5 n x1 x2) n ((-1 : Int32), (0 : Int32), σ)
set_option maxRecDepth 100000 in
set_option maxHeartbeats 4000000 in
theorem wp_md_nextPiece_ok {l : Launch} {w : wt_E} {n : Nat} {x1 : Int32} {x2 : Int32} (hD : ∀ i, 108 ≤ i → i < 321 → wt_dom w i) {σ : wt_St} {q : Int32 × wt_St} (h : wp_md_nextPiece n x1 x2 σ = some q) : wt_Ctr l w wt_y_md_nextPiece prog_13_method_52_code 6 (some .int) 1 [.ref (wt_ad w 108), .int x1, .int x2] σ (some q.1) q.2 := by
  refine wt_ctr wt_pl_md_nextPiece rfl (Nat.le_of_ble_eq_true rfl) [some (.ref (wt_ad w 108)), some (.int x1), some (.int x2), none, none, none] rfl ?_
  intro X hXl hXw hE hR
  subst hXl
  subst hXw
  have hE : wt_Ok X prog_13_method_52_code 6 "WornTypeModel" 1 0 := hE
  unfold wp_md_nextPiece at h
  refine wt_iconst hE (-1 : Int32) wp_md_nextPiece_d0 wt_ci_m1 ?_
  refine wt_istore_n hE [some (.ref (wt_ad (wt_xw X) 108)), some (.int x1), some (.int x2), some (.int (-1 : Int32)), none, none] wp_md_nextPiece_d1 (by decide) rfl ?_
  refine wt_iconst hE (0 : Int32) wp_md_nextPiece_d2 wt_ci_0 ?_
  refine wt_istore hE [some (.ref (wt_ad (wt_xw X) 108)), some (.int x1), some (.int x2), some (.int (-1 : Int32)), some (.int (0 : Int32)), none] wp_md_nextPiece_d3 (Nat.le_of_ble_eq_true rfl) rfl ?_
  exact wt_it_ind (fun z => wt_V X 0 z.2.2 5 [some (.ref (wt_ad (wt_xw X) 108)), some (.int x1), some (.int x2), some (.int z.1), some (.int z.2.1), none] []) (fun K hK z h => wp_md_nextPiece_B5_ok hE hR hD hK h) n ((-1 : Int32), (0 : Int32), σ) h
def wb16m6_prog_13_method_53_code_r3 : List (List Nat) := [4, 172] :: []
def wb16m6_prog_13_method_53_code_r2 : List (List Nat) := [42, 180, 1, 60, 21, 5, 79, 42, 89, 180, 1, 60, 4, 96, 181, 1, 60, 132, 4, 1, 167, 255, 205, 132, 3, 1, 167, 255, 190] :: wb16m6_prog_13_method_53_code_r3
def wb16m6_prog_13_method_53_code_r1 : List (List Nat) := [42, 180, 0, 115, 29, 46, 162, 0, 46, 42, 29, 27, 182, 1, 63, 54, 5, 42, 180, 0, 59, 21, 5, 28, 79, 42, 180, 0, 118] :: wb16m6_prog_13_method_53_code_r2
def wb16m6_prog_13_method_53_code_r0 : List (List Nat) := [42, 27, 182, 1, 36, 2, 159, 0, 5, 3, 172, 42, 3, 181, 1, 60, 3, 62, 29, 16, 26, 162, 0, 66, 3, 54, 4, 21, 4] :: wb16m6_prog_13_method_53_code_r1
set_option maxRecDepth 100000 in
theorem wb16m6_prog_13_method_53_code_c0 : wt_cs prog_13_method_53_code 0 wb16m6_prog_13_method_53_code_r0 := wt_cs_of (by decide +kernel)
theorem wb16m6_prog_13_method_53_code_c1 : wt_cs prog_13_method_53_code 29 wb16m6_prog_13_method_53_code_r1 := wt_cs_tl (m := 29) wb16m6_prog_13_method_53_code_c0 rfl rfl
theorem wb16m6_prog_13_method_53_code_c2 : wt_cs prog_13_method_53_code 58 wb16m6_prog_13_method_53_code_r2 := wt_cs_tl (m := 29) wb16m6_prog_13_method_53_code_c1 rfl rfl
theorem wb16m6_prog_13_method_53_code_c3 : wt_cs prog_13_method_53_code 87 wb16m6_prog_13_method_53_code_r3 := wt_cs_tl (m := 29) wb16m6_prog_13_method_53_code_c2 rfl rfl
theorem wp_md_takes_d0 : decode prog_13_method_53_code 0 = .ok (.aload_n 0, 1) := wt_op42 wb16m6_prog_13_method_53_code_c0 0 rfl rfl
theorem wp_md_takes_d1 : decode prog_13_method_53_code 1 = .ok (.iload_n 1, 1) := wt_op27 wb16m6_prog_13_method_53_code_c0 1 rfl rfl
theorem wp_md_takes_d2 : decode prog_13_method_53_code 2 = .ok (.invokevirtual 292, 3) := wt_op182 wb16m6_prog_13_method_53_code_c0 2 rfl rfl rfl
theorem wp_md_takes_d5 : decode prog_13_method_53_code 5 = .ok (.iconst (-1), 1) := wt_op2 wb16m6_prog_13_method_53_code_c0 5 rfl rfl
theorem wp_md_takes_d6 : decode prog_13_method_53_code 6 = .ok (.if_icmp .eq 5, 3) := wt_op159 wb16m6_prog_13_method_53_code_c0 6 rfl rfl rfl
theorem wp_md_takes_d9 : decode prog_13_method_53_code 9 = .ok (.iconst 0, 1) := wt_op3 wb16m6_prog_13_method_53_code_c0 9 rfl rfl
theorem wp_md_takes_d10 : decode prog_13_method_53_code 10 = .ok (.ireturn, 1) := wt_op172 wb16m6_prog_13_method_53_code_c0 10 rfl rfl
theorem wp_md_takes_d11 : decode prog_13_method_53_code 11 = .ok (.aload_n 0, 1) := wt_op42 wb16m6_prog_13_method_53_code_c0 11 rfl rfl
theorem wp_md_takes_d12 : decode prog_13_method_53_code 12 = .ok (.iconst 0, 1) := wt_op3 wb16m6_prog_13_method_53_code_c0 12 rfl rfl
theorem wp_md_takes_d13 : decode prog_13_method_53_code 13 = .ok (.putfield 316, 3) := wt_op181 wb16m6_prog_13_method_53_code_c0 13 rfl rfl rfl
theorem wp_md_takes_d16 : decode prog_13_method_53_code 16 = .ok (.iconst 0, 1) := wt_op3 wb16m6_prog_13_method_53_code_c0 16 rfl rfl
theorem wp_md_takes_d17 : decode prog_13_method_53_code 17 = .ok (.istore_n 3, 1) := wt_op62 wb16m6_prog_13_method_53_code_c0 17 rfl rfl
theorem wp_md_takes_d18 : decode prog_13_method_53_code 18 = .ok (.iload_n 3, 1) := wt_op29 wb16m6_prog_13_method_53_code_c0 18 rfl rfl
theorem wp_md_takes_d19 : decode prog_13_method_53_code 19 = .ok (.bipush 26, 2) := wt_op16 wb16m6_prog_13_method_53_code_c0 19 rfl rfl rfl
theorem wp_md_takes_d21 : decode prog_13_method_53_code 21 = .ok (.if_icmp .ge 66, 3) := wt_op162 wb16m6_prog_13_method_53_code_c0 21 rfl rfl rfl
theorem wp_md_takes_d24 : decode prog_13_method_53_code 24 = .ok (.iconst 0, 1) := wt_op3 wb16m6_prog_13_method_53_code_c0 24 rfl rfl
theorem wp_md_takes_d25 : decode prog_13_method_53_code 25 = .ok (.istore 4, 2) := wt_op54 wb16m6_prog_13_method_53_code_c0 25 rfl rfl
theorem wp_md_takes_d27 : decode prog_13_method_53_code 27 = .ok (.iload 4, 2) := wt_op21 wb16m6_prog_13_method_53_code_c0 27 rfl rfl
theorem wp_md_takes_d29 : decode prog_13_method_53_code 29 = .ok (.aload_n 0, 1) := wt_op42 wb16m6_prog_13_method_53_code_c1 0 rfl rfl
theorem wp_md_takes_d30 : decode prog_13_method_53_code 30 = .ok (.getfield 115, 3) := wt_op180 wb16m6_prog_13_method_53_code_c1 1 rfl rfl rfl
theorem wp_md_takes_d33 : decode prog_13_method_53_code 33 = .ok (.iload_n 3, 1) := wt_op29 wb16m6_prog_13_method_53_code_c1 4 rfl rfl
theorem wp_md_takes_d34 : decode prog_13_method_53_code 34 = .ok (.iaload, 1) := wt_op46 wb16m6_prog_13_method_53_code_c1 5 rfl rfl
theorem wp_md_takes_d35 : decode prog_13_method_53_code 35 = .ok (.if_icmp .ge 46, 3) := wt_op162 wb16m6_prog_13_method_53_code_c1 6 rfl rfl rfl
theorem wp_md_takes_d38 : decode prog_13_method_53_code 38 = .ok (.aload_n 0, 1) := wt_op42 wb16m6_prog_13_method_53_code_c1 9 rfl rfl
theorem wp_md_takes_d39 : decode prog_13_method_53_code 39 = .ok (.iload_n 3, 1) := wt_op29 wb16m6_prog_13_method_53_code_c1 10 rfl rfl
theorem wp_md_takes_d40 : decode prog_13_method_53_code 40 = .ok (.iload_n 1, 1) := wt_op27 wb16m6_prog_13_method_53_code_c1 11 rfl rfl
theorem wp_md_takes_d41 : decode prog_13_method_53_code 41 = .ok (.invokevirtual 319, 3) := wt_op182 wb16m6_prog_13_method_53_code_c1 12 rfl rfl rfl
theorem wp_md_takes_d44 : decode prog_13_method_53_code 44 = .ok (.istore 5, 2) := wt_op54 wb16m6_prog_13_method_53_code_c1 15 rfl rfl
theorem wp_md_takes_d46 : decode prog_13_method_53_code 46 = .ok (.aload_n 0, 1) := wt_op42 wb16m6_prog_13_method_53_code_c1 17 rfl rfl
theorem wp_md_takes_d47 : decode prog_13_method_53_code 47 = .ok (.getfield 59, 3) := wt_op180 wb16m6_prog_13_method_53_code_c1 18 rfl rfl rfl
theorem wp_md_takes_d50 : decode prog_13_method_53_code 50 = .ok (.iload 5, 2) := wt_op21 wb16m6_prog_13_method_53_code_c1 21 rfl rfl
theorem wp_md_takes_d52 : decode prog_13_method_53_code 52 = .ok (.iload_n 2, 1) := wt_op28 wb16m6_prog_13_method_53_code_c1 23 rfl rfl
theorem wp_md_takes_d53 : decode prog_13_method_53_code 53 = .ok (.iastore, 1) := wt_op79 wb16m6_prog_13_method_53_code_c1 24 rfl rfl
theorem wp_md_takes_d54 : decode prog_13_method_53_code 54 = .ok (.aload_n 0, 1) := wt_op42 wb16m6_prog_13_method_53_code_c1 25 rfl rfl
theorem wp_md_takes_d55 : decode prog_13_method_53_code 55 = .ok (.getfield 118, 3) := wt_op180 wb16m6_prog_13_method_53_code_c1 26 rfl rfl rfl
theorem wp_md_takes_d58 : decode prog_13_method_53_code 58 = .ok (.aload_n 0, 1) := wt_op42 wb16m6_prog_13_method_53_code_c2 0 rfl rfl
theorem wp_md_takes_d59 : decode prog_13_method_53_code 59 = .ok (.getfield 316, 3) := wt_op180 wb16m6_prog_13_method_53_code_c2 1 rfl rfl rfl
theorem wp_md_takes_d62 : decode prog_13_method_53_code 62 = .ok (.iload 5, 2) := wt_op21 wb16m6_prog_13_method_53_code_c2 4 rfl rfl
theorem wp_md_takes_d64 : decode prog_13_method_53_code 64 = .ok (.iastore, 1) := wt_op79 wb16m6_prog_13_method_53_code_c2 6 rfl rfl
theorem wp_md_takes_d65 : decode prog_13_method_53_code 65 = .ok (.aload_n 0, 1) := wt_op42 wb16m6_prog_13_method_53_code_c2 7 rfl rfl
theorem wp_md_takes_d66 : decode prog_13_method_53_code 66 = .ok (.dup, 1) := wt_op89 wb16m6_prog_13_method_53_code_c2 8 rfl rfl
theorem wp_md_takes_d67 : decode prog_13_method_53_code 67 = .ok (.getfield 316, 3) := wt_op180 wb16m6_prog_13_method_53_code_c2 9 rfl rfl rfl
theorem wp_md_takes_d70 : decode prog_13_method_53_code 70 = .ok (.iconst 1, 1) := wt_op4 wb16m6_prog_13_method_53_code_c2 12 rfl rfl
theorem wp_md_takes_d71 : decode prog_13_method_53_code 71 = .ok (.iadd, 1) := wt_op96 wb16m6_prog_13_method_53_code_c2 13 rfl rfl
theorem wp_md_takes_d72 : decode prog_13_method_53_code 72 = .ok (.putfield 316, 3) := wt_op181 wb16m6_prog_13_method_53_code_c2 14 rfl rfl rfl
theorem wp_md_takes_d75 : decode prog_13_method_53_code 75 = .ok (.iinc 4 1, 3) := wt_op132 wb16m6_prog_13_method_53_code_c2 17 rfl rfl rfl
theorem wp_md_takes_d78 : decode prog_13_method_53_code 78 = .ok (.goto (-51), 3) := wt_op167 wb16m6_prog_13_method_53_code_c2 20 rfl rfl rfl
theorem wp_md_takes_d81 : decode prog_13_method_53_code 81 = .ok (.iinc 3 1, 3) := wt_op132 wb16m6_prog_13_method_53_code_c2 23 rfl rfl rfl
theorem wp_md_takes_d84 : decode prog_13_method_53_code 84 = .ok (.goto (-66), 3) := wt_op167 wb16m6_prog_13_method_53_code_c2 26 rfl rfl rfl
theorem wp_md_takes_d87 : decode prog_13_method_53_code 87 = .ok (.iconst 1, 1) := wt_op4 wb16m6_prog_13_method_53_code_c3 0 rfl rfl
theorem wp_md_takes_d88 : decode prog_13_method_53_code 88 = .ok (.ireturn, 1) := wt_op172 wb16m6_prog_13_method_53_code_c3 1 rfl rfl
noncomputable def wp_md_takes_B27 (n : Nat) (x1 : Int32) (x2 : Int32) (x3 : Int32) (K18 : Int32 × wt_St → Option (Int32 × wt_St)) (K27 : Int32 × wt_St → Option (Int32 × wt_St)) (s : Int32 × wt_St) : Option (Int32 × wt_St) :=
  if x3 < 0 ∨ 26 ≤ Int32.toNatClampNeg x3 then none else
  if (wt_ga s.2 287 (Int32.toNatClampNeg x3)) ≤ s.1 then
    K18 ((x3 + (1 : Int32)), s.2)
  else
    (wp_md_nextPiece n x3 x1 s.2).bind fun q6 =>
    if q6.1 < 0 ∨ 338 ≤ Int32.toNatClampNeg q6.1 then none else
    if (wt_gf (wt_sa q6.2 124 (Int32.toNatClampNeg q6.1) x2) 108 54) < 0 ∨ 108 ≤ Int32.toNatClampNeg (wt_gf (wt_sa q6.2 124 (Int32.toNatClampNeg q6.1) x2) 108 54) then none else
    K27 ((s.1 + (1 : Int32)), (wt_sf (wt_sa (wt_sa q6.2 124 (Int32.toNatClampNeg q6.1) x2) 288 (Int32.toNatClampNeg (wt_gf (wt_sa q6.2 124 (Int32.toNatClampNeg q6.1) x2) 108 54)) q6.1) 108 54 ((wt_gf (wt_sa (wt_sa q6.2 124 (Int32.toNatClampNeg q6.1) x2) 288 (Int32.toNatClampNeg (wt_gf (wt_sa q6.2 124 (Int32.toNatClampNeg q6.1) x2) 108 54)) q6.1) 108 54) + (1 : Int32))))
set_option maxRecDepth 100000 in
set_option maxHeartbeats 4000000 in
theorem wp_md_takes_B27_ok  {x1 : Int32} {x2 : Int32} {x3 : Int32} {X : wt_X} {n : Nat} {res : Int32 × wt_St} (hE : wt_Ok X prog_13_method_53_code 6 "WornTypeModel" 3 0) (hR : wt_Rt X (some .boolean) (some res.1) res.2) (hD : ∀ i, 108 ≤ i → i < 321 → wt_dom (wt_xw X) i)  {K18 : Int32 × wt_St → Option (Int32 × wt_St)} (hK18 : ∀ s : Int32 × wt_St, K18 s = some res → wt_V X 0 s.2 18 [some (.ref (wt_ad (wt_xw X) 108)), some (.int x1), some (.int x2), some (.int s.1), none, none] []) {K27 : Int32 × wt_St → Option (Int32 × wt_St)} (hK27 : ∀ s : Int32 × wt_St, K27 s = some res → wt_V X 0 s.2 27 [some (.ref (wt_ad (wt_xw X) 108)), some (.int x1), some (.int x2), some (.int x3), some (.int s.1), none] []) {s : Int32 × wt_St} (h : wp_md_takes_B27 n x1 x2 x3 K18 K27 s = some res) : wt_V X 0 s.2 27 [some (.ref (wt_ad (wt_xw X) 108)), some (.int x1), some (.int x2), some (.int x3), some (.int s.1), none] [] := by
  unfold wp_md_takes_B27 at h
  refine wt_iload hE wp_md_takes_d27 rfl ?_
  refine wt_aload_n hE wp_md_takes_d29 rfl ?_
  refine wt_getr hE (r := 287) wt_lf_md_115 (hD 108 (by decide) (by decide)) wt_L108 rfl wp_md_takes_d30 ?_
  refine wt_iload_n hE wp_md_takes_d33 rfl ?_
  obtain ⟨g4, h⟩ := wt_gd h
  refine wt_iald hE (hD 287 (by decide) (by decide)) wt_L287 g4 wp_md_takes_d34 ?_
  refine wt_icmp_ge hE 81 wp_md_takes_d35 rfl (fun c5 => ?_) (fun c5 => ?_)
  · have h := wt_ip c5 h
    refine wt_iinc hE (x3 + (1 : Int32)) [some (.ref (wt_ad (wt_xw X) 108)), some (.int x1), some (.int x2), some (.int (x3 + (1 : Int32))), some (.int s.1), none] wp_md_takes_d81 (by decide) rfl rfl rfl ?_
    refine wt_goto hE 18 wp_md_takes_d84 rfl ?_
    refine wt_wk [true, true, true, true, false, true] rfl ?_
    exact hK18 ((x3 + (1 : Int32)), s.2) h
  · have h := wt_in c5 h
    refine wt_aload_n hE wp_md_takes_d38 rfl ?_
    refine wt_iload_n hE wp_md_takes_d39 rfl ?_
    refine wt_iload_n hE wp_md_takes_d40 rfl ?_
    obtain ⟨q6, hq6, h⟩ := wt_bi h
    refine wt_callVi hE [.int x3, .int x1] wt_lm_md_319 wt_ya_md_nextPiece (wp_md_nextPiece_ok hD hq6) (by omega) (hD 108 (by decide) (by decide)) wt_L108 rfl rfl rfl (Nat.le_of_ble_eq_true rfl) (Nat.zero_le _) wp_md_takes_d41 (fun hbq6 => ?_)
    refine wt_istore hE [some (.ref (wt_ad (wt_xw X) 108)), some (.int x1), some (.int x2), some (.int x3), some (.int s.1), some (.int q6.1)] wp_md_takes_d44 (Nat.le_of_ble_eq_true rfl) rfl ?_
    refine wt_aload_n hE wp_md_takes_d46 rfl ?_
    refine wt_getr hE (r := 124) wt_lf_md_59 (hD 108 (by decide) (by decide)) wt_L108 rfl wp_md_takes_d47 ?_
    refine wt_iload hE wp_md_takes_d50 rfl ?_
    refine wt_iload_n hE wp_md_takes_d52 rfl ?_
    obtain ⟨g7, h⟩ := wt_gd h
    refine wt_iast hE (hD 124 (by decide) (by decide)) wt_L124 g7 wp_md_takes_d53 ?_
    refine wt_aload_n hE wp_md_takes_d54 rfl ?_
    refine wt_getr hE (r := 288) wt_lf_md_118 (hD 108 (by decide) (by decide)) wt_L108 rfl wp_md_takes_d55 ?_
    refine wt_aload_n hE wp_md_takes_d58 rfl ?_
    refine wt_geti hE wt_lf_md_316 (hD 108 (by decide) (by decide)) wt_L108 rfl wp_md_takes_d59 ?_
    refine wt_iload hE wp_md_takes_d62 rfl ?_
    obtain ⟨g8, h⟩ := wt_gd h
    refine wt_iast hE (hD 288 (by decide) (by decide)) wt_L288 g8 wp_md_takes_d64 ?_
    refine wt_aload_n hE wp_md_takes_d65 rfl ?_
    refine wt_dup hE wp_md_takes_d66 rfl ?_
    refine wt_geti hE wt_lf_md_316 (hD 108 (by decide) (by decide)) wt_L108 rfl wp_md_takes_d67 ?_
    refine wt_iconst hE (1 : Int32) wp_md_takes_d70 wt_ci_1 ?_
    refine wt_iadd hE wp_md_takes_d71 ?_
    refine wt_puti hE wt_lf_md_316 (hD 108 (by decide) (by decide)) wt_L108 rfl (fun q hq => by cases hq; rfl) wp_md_takes_d72 ?_
    refine wt_iinc hE (s.1 + (1 : Int32)) [some (.ref (wt_ad (wt_xw X) 108)), some (.int x1), some (.int x2), some (.int x3), some (.int (s.1 + (1 : Int32))), some (.int q6.1)] wp_md_takes_d75 (by decide) rfl rfl rfl ?_
    refine wt_goto hE 27 wp_md_takes_d78 rfl ?_
    refine wt_wk [true, true, true, true, true, false] rfl ?_
    exact hK27 ((s.1 + (1 : Int32)), (wt_sf (wt_sa (wt_sa q6.2 124 (Int32.toNatClampNeg q6.1) x2) 288 (Int32.toNatClampNeg (wt_gf (wt_sa q6.2 124 (Int32.toNatClampNeg q6.1) x2) 108 54)) q6.1) 108 54 ((wt_gf (wt_sa (wt_sa q6.2 124 (Int32.toNatClampNeg q6.1) x2) 288 (Int32.toNatClampNeg (wt_gf (wt_sa q6.2 124 (Int32.toNatClampNeg q6.1) x2) 108 54)) q6.1) 108 54) + (1 : Int32)))) h
noncomputable def wp_md_takes_B18 (n : Nat) (x1 : Int32) (x2 : Int32) (K18 : Int32 × wt_St → Option (Int32 × wt_St)) (s : Int32 × wt_St) : Option (Int32 × wt_St) :=
  if (26 : Int32) ≤ s.1 then
    some ((1 : Int32), s.2)
  else
    wt_it (wp_md_takes_B27 n x1 x2 s.1 K18) n ((0 : Int32), s.2)
set_option maxRecDepth 100000 in
set_option maxHeartbeats 4000000 in
theorem wp_md_takes_B18_ok  {x1 : Int32} {x2 : Int32} {X : wt_X} {n : Nat} {res : Int32 × wt_St} (hE : wt_Ok X prog_13_method_53_code 6 "WornTypeModel" 3 0) (hR : wt_Rt X (some .boolean) (some res.1) res.2) (hD : ∀ i, 108 ≤ i → i < 321 → wt_dom (wt_xw X) i)  {K18 : Int32 × wt_St → Option (Int32 × wt_St)} (hK18 : ∀ s : Int32 × wt_St, K18 s = some res → wt_V X 0 s.2 18 [some (.ref (wt_ad (wt_xw X) 108)), some (.int x1), some (.int x2), some (.int s.1), none, none] []) {s : Int32 × wt_St} (h : wp_md_takes_B18 n x1 x2 K18 s = some res) : wt_V X 0 s.2 18 [some (.ref (wt_ad (wt_xw X) 108)), some (.int x1), some (.int x2), some (.int s.1), none, none] [] := by
  unfold wp_md_takes_B18 at h
  refine wt_iload_n hE wp_md_takes_d18 rfl ?_
  refine wt_bipush hE (26 : Int32) wp_md_takes_d19 wt_cb_26 ?_
  refine wt_icmp_ge hE 87 wp_md_takes_d21 rfl (fun c3 => ?_) (fun c3 => ?_)
  · have h := wt_ip c3 h
    refine wt_iconst hE (1 : Int32) wp_md_takes_d87 wt_ci_1 ?_
    cases h
    exact wt_zret hE (by decide) hR wp_md_takes_d88
  · have h := wt_in c3 h
    refine wt_iconst hE (0 : Int32) wp_md_takes_d24 wt_ci_0 ?_
    refine wt_istore hE [some (.ref (wt_ad (wt_xw X) 108)), some (.int x1), some (.int x2), some (.int s.1), some (.int (0 : Int32)), none] wp_md_takes_d25 (Nat.le_of_ble_eq_true rfl) rfl ?_
    exact wt_it_ind (fun z => wt_V X 0 z.2 27 [some (.ref (wt_ad (wt_xw X) 108)), some (.int x1), some (.int x2), some (.int s.1), some (.int z.1), none] []) (fun K hK z h => wp_md_takes_B27_ok hE hR hD hK18 hK h) n ((0 : Int32), s.2) h
noncomputable def wp_md_takes (n : Nat) (x1 : Int32) (x2 : Int32) (σ : wt_St) : Option (Int32 × wt_St) :=
  (wp_md_lacking n x1 σ).bind fun q1 =>
  if q1.1 = (-1 : Int32) then
    wt_it (wp_md_takes_B18 n x1 x2) n ((0 : Int32), (wt_sf q1.2 108 54 (0 : Int32)))
  else
    some ((0 : Int32), q1.2)
set_option maxRecDepth 100000 in
set_option maxHeartbeats 4000000 in
theorem wp_md_takes_ok {l : Launch} {w : wt_E} {n : Nat} {x1 : Int32} {x2 : Int32} (hD : ∀ i, 108 ≤ i → i < 321 → wt_dom w i) {σ : wt_St} {q : Int32 × wt_St} (h : wp_md_takes n x1 x2 σ = some q) : wt_Ctr l w wt_y_md_takes prog_13_method_53_code 6 (some .boolean) 3 [.ref (wt_ad w 108), .int x1, .int x2] σ (some q.1) q.2 := by
  refine wt_ctr wt_pl_md_takes rfl (Nat.le_of_ble_eq_true rfl) [some (.ref (wt_ad w 108)), some (.int x1), some (.int x2), none, none, none] rfl ?_
  intro X hXl hXw hE hR
  subst hXl
  subst hXw
  have hE : wt_Ok X prog_13_method_53_code 6 "WornTypeModel" 3 0 := hE
  unfold wp_md_takes at h
  refine wt_aload_n hE wp_md_takes_d0 rfl ?_
  refine wt_iload_n hE wp_md_takes_d1 rfl ?_
  obtain ⟨q1, hq1, h⟩ := wt_bi h
  refine wt_callVi hE [.int x1] wt_lm_md_292 wt_ya_md_lacking (wp_md_lacking_ok hD hq1) (by omega) (hD 108 (by decide) (by decide)) wt_L108 rfl rfl rfl (Nat.le_of_ble_eq_true rfl) (Nat.zero_le _) wp_md_takes_d2 (fun hbq1 => ?_)
  refine wt_iconst hE (-1 : Int32) wp_md_takes_d5 wt_ci_m1 ?_
  refine wt_icmp_eq hE 11 wp_md_takes_d6 rfl (fun c2 => ?_) (fun c2 => ?_)
  · have h := wt_ip c2 h
    refine wt_aload_n hE wp_md_takes_d11 rfl ?_
    refine wt_iconst hE (0 : Int32) wp_md_takes_d12 wt_ci_0 ?_
    refine wt_puti hE wt_lf_md_316 (hD 108 (by decide) (by decide)) wt_L108 rfl (fun q hq => by cases hq; rfl) wp_md_takes_d13 ?_
    refine wt_iconst hE (0 : Int32) wp_md_takes_d16 wt_ci_0 ?_
    refine wt_istore_n hE [some (.ref (wt_ad (wt_xw X) 108)), some (.int x1), some (.int x2), some (.int (0 : Int32)), none, none] wp_md_takes_d17 (by decide) rfl ?_
    exact wt_it_ind (fun z => wt_V X 0 z.2 18 [some (.ref (wt_ad (wt_xw X) 108)), some (.int x1), some (.int x2), some (.int z.1), none, none] []) (fun K hK z h => wp_md_takes_B18_ok hE hR hD hK h) n ((0 : Int32), (wt_sf q1.2 108 54 (0 : Int32))) h
  · have h := wt_in c2 h
    refine wt_iconst hE (0 : Int32) wp_md_takes_d9 wt_ci_0 ?_
    cases h
    exact wt_zret hE (by decide) hR wp_md_takes_d10
def wb16m6_prog_13_method_75_code_r2 : List (List Nat) := [27, 50, 4, 46, 100, 79, 42, 180, 0, 59, 42, 180, 0, 118, 28, 46, 2, 79, 132, 2, 1, 167, 255, 211, 4, 172] :: []
def wb16m6_prog_13_method_75_code_r1 : List (List Nat) := [3, 172, 3, 61, 28, 42, 180, 1, 60, 162, 0, 43, 42, 180, 0, 50, 42, 180, 0, 118, 28, 46, 92, 46, 42, 180, 0, 94] :: wb16m6_prog_13_method_75_code_r2
def wb16m6_prog_13_method_75_code_r0 : List (List Nat) := [42, 42, 180, 0, 94, 27, 50, 3, 46, 182, 1, 54, 42, 42, 180, 0, 94, 27, 50, 4, 46, 7, 182, 1, 66, 154, 0, 5] :: wb16m6_prog_13_method_75_code_r1
set_option maxRecDepth 100000 in
theorem wb16m6_prog_13_method_75_code_c0 : wt_cs prog_13_method_75_code 0 wb16m6_prog_13_method_75_code_r0 := wt_cs_of (by decide +kernel)
theorem wb16m6_prog_13_method_75_code_c1 : wt_cs prog_13_method_75_code 28 wb16m6_prog_13_method_75_code_r1 := wt_cs_tl (m := 28) wb16m6_prog_13_method_75_code_c0 rfl rfl
theorem wb16m6_prog_13_method_75_code_c2 : wt_cs prog_13_method_75_code 56 wb16m6_prog_13_method_75_code_r2 := wt_cs_tl (m := 28) wb16m6_prog_13_method_75_code_c1 rfl rfl
theorem wp_md_isPrinted_d0 : decode prog_13_method_75_code 0 = .ok (.aload_n 0, 1) := wt_op42 wb16m6_prog_13_method_75_code_c0 0 rfl rfl
theorem wp_md_isPrinted_d1 : decode prog_13_method_75_code 1 = .ok (.aload_n 0, 1) := wt_op42 wb16m6_prog_13_method_75_code_c0 1 rfl rfl
theorem wp_md_isPrinted_d2 : decode prog_13_method_75_code 2 = .ok (.getfield 94, 3) := wt_op180 wb16m6_prog_13_method_75_code_c0 2 rfl rfl rfl
theorem wp_md_isPrinted_d5 : decode prog_13_method_75_code 5 = .ok (.iload_n 1, 1) := wt_op27 wb16m6_prog_13_method_75_code_c0 5 rfl rfl
theorem wp_md_isPrinted_d6 : decode prog_13_method_75_code 6 = .ok (.aaload, 1) := wt_op50 wb16m6_prog_13_method_75_code_c0 6 rfl rfl
theorem wp_md_isPrinted_d7 : decode prog_13_method_75_code 7 = .ok (.iconst 0, 1) := wt_op3 wb16m6_prog_13_method_75_code_c0 7 rfl rfl
theorem wp_md_isPrinted_d8 : decode prog_13_method_75_code 8 = .ok (.iaload, 1) := wt_op46 wb16m6_prog_13_method_75_code_c0 8 rfl rfl
theorem wp_md_isPrinted_d9 : decode prog_13_method_75_code 9 = .ok (.invokevirtual 310, 3) := wt_op182 wb16m6_prog_13_method_75_code_c0 9 rfl rfl rfl
theorem wp_md_isPrinted_d12 : decode prog_13_method_75_code 12 = .ok (.aload_n 0, 1) := wt_op42 wb16m6_prog_13_method_75_code_c0 12 rfl rfl
theorem wp_md_isPrinted_d13 : decode prog_13_method_75_code 13 = .ok (.aload_n 0, 1) := wt_op42 wb16m6_prog_13_method_75_code_c0 13 rfl rfl
theorem wp_md_isPrinted_d14 : decode prog_13_method_75_code 14 = .ok (.getfield 94, 3) := wt_op180 wb16m6_prog_13_method_75_code_c0 14 rfl rfl rfl
theorem wp_md_isPrinted_d17 : decode prog_13_method_75_code 17 = .ok (.iload_n 1, 1) := wt_op27 wb16m6_prog_13_method_75_code_c0 17 rfl rfl
theorem wp_md_isPrinted_d18 : decode prog_13_method_75_code 18 = .ok (.aaload, 1) := wt_op50 wb16m6_prog_13_method_75_code_c0 18 rfl rfl
theorem wp_md_isPrinted_d19 : decode prog_13_method_75_code 19 = .ok (.iconst 1, 1) := wt_op4 wb16m6_prog_13_method_75_code_c0 19 rfl rfl
theorem wp_md_isPrinted_d20 : decode prog_13_method_75_code 20 = .ok (.iaload, 1) := wt_op46 wb16m6_prog_13_method_75_code_c0 20 rfl rfl
theorem wp_md_isPrinted_d21 : decode prog_13_method_75_code 21 = .ok (.iconst 4, 1) := wt_op7 wb16m6_prog_13_method_75_code_c0 21 rfl rfl
theorem wp_md_isPrinted_d22 : decode prog_13_method_75_code 22 = .ok (.invokevirtual 322, 3) := wt_op182 wb16m6_prog_13_method_75_code_c0 22 rfl rfl rfl
theorem wp_md_isPrinted_d25 : decode prog_13_method_75_code 25 = .ok (.ifCond .ne 5, 3) := wt_op154 wb16m6_prog_13_method_75_code_c0 25 rfl rfl rfl
theorem wp_md_isPrinted_d28 : decode prog_13_method_75_code 28 = .ok (.iconst 0, 1) := wt_op3 wb16m6_prog_13_method_75_code_c1 0 rfl rfl
theorem wp_md_isPrinted_d29 : decode prog_13_method_75_code 29 = .ok (.ireturn, 1) := wt_op172 wb16m6_prog_13_method_75_code_c1 1 rfl rfl
theorem wp_md_isPrinted_d30 : decode prog_13_method_75_code 30 = .ok (.iconst 0, 1) := wt_op3 wb16m6_prog_13_method_75_code_c1 2 rfl rfl
theorem wp_md_isPrinted_d31 : decode prog_13_method_75_code 31 = .ok (.istore_n 2, 1) := wt_op61 wb16m6_prog_13_method_75_code_c1 3 rfl rfl
theorem wp_md_isPrinted_d32 : decode prog_13_method_75_code 32 = .ok (.iload_n 2, 1) := wt_op28 wb16m6_prog_13_method_75_code_c1 4 rfl rfl
theorem wp_md_isPrinted_d33 : decode prog_13_method_75_code 33 = .ok (.aload_n 0, 1) := wt_op42 wb16m6_prog_13_method_75_code_c1 5 rfl rfl
theorem wp_md_isPrinted_d34 : decode prog_13_method_75_code 34 = .ok (.getfield 316, 3) := wt_op180 wb16m6_prog_13_method_75_code_c1 6 rfl rfl rfl
theorem wp_md_isPrinted_d37 : decode prog_13_method_75_code 37 = .ok (.if_icmp .ge 43, 3) := wt_op162 wb16m6_prog_13_method_75_code_c1 9 rfl rfl rfl
theorem wp_md_isPrinted_d40 : decode prog_13_method_75_code 40 = .ok (.aload_n 0, 1) := wt_op42 wb16m6_prog_13_method_75_code_c1 12 rfl rfl
theorem wp_md_isPrinted_d41 : decode prog_13_method_75_code 41 = .ok (.getfield 50, 3) := wt_op180 wb16m6_prog_13_method_75_code_c1 13 rfl rfl rfl
theorem wp_md_isPrinted_d44 : decode prog_13_method_75_code 44 = .ok (.aload_n 0, 1) := wt_op42 wb16m6_prog_13_method_75_code_c1 16 rfl rfl
theorem wp_md_isPrinted_d45 : decode prog_13_method_75_code 45 = .ok (.getfield 118, 3) := wt_op180 wb16m6_prog_13_method_75_code_c1 17 rfl rfl rfl
theorem wp_md_isPrinted_d48 : decode prog_13_method_75_code 48 = .ok (.iload_n 2, 1) := wt_op28 wb16m6_prog_13_method_75_code_c1 20 rfl rfl
theorem wp_md_isPrinted_d49 : decode prog_13_method_75_code 49 = .ok (.iaload, 1) := wt_op46 wb16m6_prog_13_method_75_code_c1 21 rfl rfl
theorem wp_md_isPrinted_d50 : decode prog_13_method_75_code 50 = .ok (.dup2, 1) := wt_op92 wb16m6_prog_13_method_75_code_c1 22 rfl rfl
theorem wp_md_isPrinted_d51 : decode prog_13_method_75_code 51 = .ok (.iaload, 1) := wt_op46 wb16m6_prog_13_method_75_code_c1 23 rfl rfl
theorem wp_md_isPrinted_d52 : decode prog_13_method_75_code 52 = .ok (.aload_n 0, 1) := wt_op42 wb16m6_prog_13_method_75_code_c1 24 rfl rfl
theorem wp_md_isPrinted_d53 : decode prog_13_method_75_code 53 = .ok (.getfield 94, 3) := wt_op180 wb16m6_prog_13_method_75_code_c1 25 rfl rfl rfl
theorem wp_md_isPrinted_d56 : decode prog_13_method_75_code 56 = .ok (.iload_n 1, 1) := wt_op27 wb16m6_prog_13_method_75_code_c2 0 rfl rfl
theorem wp_md_isPrinted_d57 : decode prog_13_method_75_code 57 = .ok (.aaload, 1) := wt_op50 wb16m6_prog_13_method_75_code_c2 1 rfl rfl
theorem wp_md_isPrinted_d58 : decode prog_13_method_75_code 58 = .ok (.iconst 1, 1) := wt_op4 wb16m6_prog_13_method_75_code_c2 2 rfl rfl
theorem wp_md_isPrinted_d59 : decode prog_13_method_75_code 59 = .ok (.iaload, 1) := wt_op46 wb16m6_prog_13_method_75_code_c2 3 rfl rfl
theorem wp_md_isPrinted_d60 : decode prog_13_method_75_code 60 = .ok (.isub, 1) := wt_op100 wb16m6_prog_13_method_75_code_c2 4 rfl rfl
theorem wp_md_isPrinted_d61 : decode prog_13_method_75_code 61 = .ok (.iastore, 1) := wt_op79 wb16m6_prog_13_method_75_code_c2 5 rfl rfl
theorem wp_md_isPrinted_d62 : decode prog_13_method_75_code 62 = .ok (.aload_n 0, 1) := wt_op42 wb16m6_prog_13_method_75_code_c2 6 rfl rfl
theorem wp_md_isPrinted_d63 : decode prog_13_method_75_code 63 = .ok (.getfield 59, 3) := wt_op180 wb16m6_prog_13_method_75_code_c2 7 rfl rfl rfl
theorem wp_md_isPrinted_d66 : decode prog_13_method_75_code 66 = .ok (.aload_n 0, 1) := wt_op42 wb16m6_prog_13_method_75_code_c2 10 rfl rfl
theorem wp_md_isPrinted_d67 : decode prog_13_method_75_code 67 = .ok (.getfield 118, 3) := wt_op180 wb16m6_prog_13_method_75_code_c2 11 rfl rfl rfl
theorem wp_md_isPrinted_d70 : decode prog_13_method_75_code 70 = .ok (.iload_n 2, 1) := wt_op28 wb16m6_prog_13_method_75_code_c2 14 rfl rfl
theorem wp_md_isPrinted_d71 : decode prog_13_method_75_code 71 = .ok (.iaload, 1) := wt_op46 wb16m6_prog_13_method_75_code_c2 15 rfl rfl
theorem wp_md_isPrinted_d72 : decode prog_13_method_75_code 72 = .ok (.iconst (-1), 1) := wt_op2 wb16m6_prog_13_method_75_code_c2 16 rfl rfl
theorem wp_md_isPrinted_d73 : decode prog_13_method_75_code 73 = .ok (.iastore, 1) := wt_op79 wb16m6_prog_13_method_75_code_c2 17 rfl rfl
theorem wp_md_isPrinted_d74 : decode prog_13_method_75_code 74 = .ok (.iinc 2 1, 3) := wt_op132 wb16m6_prog_13_method_75_code_c2 18 rfl rfl rfl
theorem wp_md_isPrinted_d77 : decode prog_13_method_75_code 77 = .ok (.goto (-45), 3) := wt_op167 wb16m6_prog_13_method_75_code_c2 21 rfl rfl rfl
theorem wp_md_isPrinted_d80 : decode prog_13_method_75_code 80 = .ok (.iconst 1, 1) := wt_op4 wb16m6_prog_13_method_75_code_c2 24 rfl rfl
theorem wp_md_isPrinted_d81 : decode prog_13_method_75_code 81 = .ok (.ireturn, 1) := wt_op172 wb16m6_prog_13_method_75_code_c2 25 rfl rfl
noncomputable def wp_md_isPrinted_B32 (n : Nat) (x1 : Int32) (K32 : Int32 × wt_St → Option (Int32 × wt_St)) (s : Int32 × wt_St) : Option (Int32 × wt_St) :=
  if (wt_gf s.2 108 54) ≤ s.1 then
    some ((1 : Int32), s.2)
  else
    if s.1 < 0 ∨ 108 ≤ Int32.toNatClampNeg s.1 then none else
    if (wt_ga s.2 288 (Int32.toNatClampNeg s.1)) < 0 ∨ 338 ≤ Int32.toNatClampNeg (wt_ga s.2 288 (Int32.toNatClampNeg s.1)) then none else
    if x1 < 0 ∨ 10 ≤ Int32.toNatClampNeg x1 then none else
    if (1 : Int32) < 0 ∨ 4 ≤ Int32.toNatClampNeg (1 : Int32) then none else
    if (wt_ga s.2 288 (Int32.toNatClampNeg s.1)) < 0 ∨ 338 ≤ Int32.toNatClampNeg (wt_ga s.2 288 (Int32.toNatClampNeg s.1)) then none else
    if s.1 < 0 ∨ 108 ≤ Int32.toNatClampNeg s.1 then none else
    if (wt_ga (wt_sa s.2 121 (Int32.toNatClampNeg (wt_ga s.2 288 (Int32.toNatClampNeg s.1))) ((wt_ga s.2 121 (Int32.toNatClampNeg (wt_ga s.2 288 (Int32.toNatClampNeg s.1)))) - (wt_ga s.2 (264 + Int32.toNatClampNeg x1) (Int32.toNatClampNeg (1 : Int32))))) 288 (Int32.toNatClampNeg s.1)) < 0 ∨ 338 ≤ Int32.toNatClampNeg (wt_ga (wt_sa s.2 121 (Int32.toNatClampNeg (wt_ga s.2 288 (Int32.toNatClampNeg s.1))) ((wt_ga s.2 121 (Int32.toNatClampNeg (wt_ga s.2 288 (Int32.toNatClampNeg s.1)))) - (wt_ga s.2 (264 + Int32.toNatClampNeg x1) (Int32.toNatClampNeg (1 : Int32))))) 288 (Int32.toNatClampNeg s.1)) then none else
    K32 ((s.1 + (1 : Int32)), (wt_sa (wt_sa s.2 121 (Int32.toNatClampNeg (wt_ga s.2 288 (Int32.toNatClampNeg s.1))) ((wt_ga s.2 121 (Int32.toNatClampNeg (wt_ga s.2 288 (Int32.toNatClampNeg s.1)))) - (wt_ga s.2 (264 + Int32.toNatClampNeg x1) (Int32.toNatClampNeg (1 : Int32))))) 124 (Int32.toNatClampNeg (wt_ga (wt_sa s.2 121 (Int32.toNatClampNeg (wt_ga s.2 288 (Int32.toNatClampNeg s.1))) ((wt_ga s.2 121 (Int32.toNatClampNeg (wt_ga s.2 288 (Int32.toNatClampNeg s.1)))) - (wt_ga s.2 (264 + Int32.toNatClampNeg x1) (Int32.toNatClampNeg (1 : Int32))))) 288 (Int32.toNatClampNeg s.1))) (-1 : Int32)))
set_option maxRecDepth 100000 in
set_option maxHeartbeats 4000000 in
theorem wp_md_isPrinted_B32_ok  {x1 : Int32} {X : wt_X} {n : Nat} {res : Int32 × wt_St} (hE : wt_Ok X prog_13_method_75_code 3 "WornTypeModel" 4 0) (hR : wt_Rt X (some .boolean) (some res.1) res.2) (hD : ∀ i, 108 ≤ i → i < 321 → wt_dom (wt_xw X) i)  {K32 : Int32 × wt_St → Option (Int32 × wt_St)} (hK32 : ∀ s : Int32 × wt_St, K32 s = some res → wt_V X 0 s.2 32 [some (.ref (wt_ad (wt_xw X) 108)), some (.int x1), some (.int s.1)] []) {s : Int32 × wt_St} (h : wp_md_isPrinted_B32 n x1 K32 s = some res) : wt_V X 0 s.2 32 [some (.ref (wt_ad (wt_xw X) 108)), some (.int x1), some (.int s.1)] [] := by
  unfold wp_md_isPrinted_B32 at h
  refine wt_iload_n hE wp_md_isPrinted_d32 rfl ?_
  refine wt_aload_n hE wp_md_isPrinted_d33 rfl ?_
  refine wt_geti hE wt_lf_md_316 (hD 108 (by decide) (by decide)) wt_L108 rfl wp_md_isPrinted_d34 ?_
  refine wt_icmp_ge hE 80 wp_md_isPrinted_d37 rfl (fun c8 => ?_) (fun c8 => ?_)
  · have h := wt_ip c8 h
    refine wt_iconst hE (1 : Int32) wp_md_isPrinted_d80 wt_ci_1 ?_
    cases h
    exact wt_zret hE (by decide) hR wp_md_isPrinted_d81
  · have h := wt_in c8 h
    refine wt_aload_n hE wp_md_isPrinted_d40 rfl ?_
    refine wt_getr hE (r := 121) wt_lf_md_50 (hD 108 (by decide) (by decide)) wt_L108 rfl wp_md_isPrinted_d41 ?_
    refine wt_aload_n hE wp_md_isPrinted_d44 rfl ?_
    refine wt_getr hE (r := 288) wt_lf_md_118 (hD 108 (by decide) (by decide)) wt_L108 rfl wp_md_isPrinted_d45 ?_
    refine wt_iload_n hE wp_md_isPrinted_d48 rfl ?_
    obtain ⟨g9, h⟩ := wt_gd h
    refine wt_iald hE (hD 288 (by decide) (by decide)) wt_L288 g9 wp_md_isPrinted_d49 ?_
    refine wt_dup2 hE wp_md_isPrinted_d50 rfl rfl ?_
    obtain ⟨g10, h⟩ := wt_gd h
    refine wt_iald hE (hD 121 (by decide) (by decide)) wt_L121 g10 wp_md_isPrinted_d51 ?_
    refine wt_aload_n hE wp_md_isPrinted_d52 rfl ?_
    refine wt_getr hE (r := 263) wt_lf_md_94 (hD 108 (by decide) (by decide)) wt_L108 rfl wp_md_isPrinted_d53 ?_
    refine wt_iload_n hE wp_md_isPrinted_d56 rfl ?_
    obtain ⟨g11, h⟩ := wt_gd h
    have lg11 := wt_lt g11
    refine wt_aald1 hE (hD 263 (by decide) (by decide)) wt_L263 g11 wp_md_isPrinted_d57 ?_
    refine wt_iconst hE (1 : Int32) wp_md_isPrinted_d58 wt_ci_1 ?_
    obtain ⟨g12, h⟩ := wt_gd h
    refine wt_iald hE (hD _ (by omega) (by omega)) (wt_G264 _ lg11) g12 wp_md_isPrinted_d59 ?_
    refine wt_isub hE wp_md_isPrinted_d60 ?_
    obtain ⟨g13, h⟩ := wt_gd h
    refine wt_iast hE (hD 121 (by decide) (by decide)) wt_L121 g13 wp_md_isPrinted_d61 ?_
    refine wt_aload_n hE wp_md_isPrinted_d62 rfl ?_
    refine wt_getr hE (r := 124) wt_lf_md_59 (hD 108 (by decide) (by decide)) wt_L108 rfl wp_md_isPrinted_d63 ?_
    refine wt_aload_n hE wp_md_isPrinted_d66 rfl ?_
    refine wt_getr hE (r := 288) wt_lf_md_118 (hD 108 (by decide) (by decide)) wt_L108 rfl wp_md_isPrinted_d67 ?_
    refine wt_iload_n hE wp_md_isPrinted_d70 rfl ?_
    obtain ⟨g14, h⟩ := wt_gd h
    refine wt_iald hE (hD 288 (by decide) (by decide)) wt_L288 g14 wp_md_isPrinted_d71 ?_
    refine wt_iconst hE (-1 : Int32) wp_md_isPrinted_d72 wt_ci_m1 ?_
    obtain ⟨g15, h⟩ := wt_gd h
    refine wt_iast hE (hD 124 (by decide) (by decide)) wt_L124 g15 wp_md_isPrinted_d73 ?_
    refine wt_iinc hE (s.1 + (1 : Int32)) [some (.ref (wt_ad (wt_xw X) 108)), some (.int x1), some (.int (s.1 + (1 : Int32)))] wp_md_isPrinted_d74 (by decide) rfl rfl rfl ?_
    refine wt_goto hE 32 wp_md_isPrinted_d77 rfl ?_
    exact hK32 ((s.1 + (1 : Int32)), (wt_sa (wt_sa s.2 121 (Int32.toNatClampNeg (wt_ga s.2 288 (Int32.toNatClampNeg s.1))) ((wt_ga s.2 121 (Int32.toNatClampNeg (wt_ga s.2 288 (Int32.toNatClampNeg s.1)))) - (wt_ga s.2 (264 + Int32.toNatClampNeg x1) (Int32.toNatClampNeg (1 : Int32))))) 124 (Int32.toNatClampNeg (wt_ga (wt_sa s.2 121 (Int32.toNatClampNeg (wt_ga s.2 288 (Int32.toNatClampNeg s.1))) ((wt_ga s.2 121 (Int32.toNatClampNeg (wt_ga s.2 288 (Int32.toNatClampNeg s.1)))) - (wt_ga s.2 (264 + Int32.toNatClampNeg x1) (Int32.toNatClampNeg (1 : Int32))))) 288 (Int32.toNatClampNeg s.1))) (-1 : Int32))) h
noncomputable def wp_md_isPrinted (n : Nat) (x1 : Int32) (σ : wt_St) : Option (Int32 × wt_St) :=
  if x1 < 0 ∨ 10 ≤ Int32.toNatClampNeg x1 then none else
  if (0 : Int32) < 0 ∨ 4 ≤ Int32.toNatClampNeg (0 : Int32) then none else
  (wp_md_needsText n (wt_ga σ (264 + Int32.toNatClampNeg x1) (Int32.toNatClampNeg (0 : Int32))) σ).bind fun q3 =>
  if x1 < 0 ∨ 10 ≤ Int32.toNatClampNeg x1 then none else
  if (1 : Int32) < 0 ∨ 4 ≤ Int32.toNatClampNeg (1 : Int32) then none else
  (wp_md_takes n (wt_ga q3 (264 + Int32.toNatClampNeg x1) (Int32.toNatClampNeg (1 : Int32))) (4 : Int32) q3).bind fun q6 =>
  if q6.1 = 0 then
    some ((0 : Int32), q6.2)
  else
    wt_it (wp_md_isPrinted_B32 n x1) n ((0 : Int32), q6.2)
set_option maxRecDepth 100000 in
set_option maxHeartbeats 4000000 in
theorem wp_md_isPrinted_ok {l : Launch} {w : wt_E} {n : Nat} {x1 : Int32} (hD : ∀ i, 108 ≤ i → i < 321 → wt_dom w i) {σ : wt_St} {q : Int32 × wt_St} (h : wp_md_isPrinted n x1 σ = some q) : wt_Ctr l w wt_y_md_isPrinted prog_13_method_75_code 3 (some .boolean) 4 [.ref (wt_ad w 108), .int x1] σ (some q.1) q.2 := by
  refine wt_ctr wt_pl_md_isPrinted rfl (Nat.le_of_ble_eq_true rfl) [some (.ref (wt_ad w 108)), some (.int x1), none] rfl ?_
  intro X hXl hXw hE hR
  subst hXl
  subst hXw
  have hE : wt_Ok X prog_13_method_75_code 3 "WornTypeModel" 4 0 := hE
  unfold wp_md_isPrinted at h
  refine wt_aload_n hE wp_md_isPrinted_d0 rfl ?_
  refine wt_aload_n hE wp_md_isPrinted_d1 rfl ?_
  refine wt_getr hE (r := 263) wt_lf_md_94 (hD 108 (by decide) (by decide)) wt_L108 rfl wp_md_isPrinted_d2 ?_
  refine wt_iload_n hE wp_md_isPrinted_d5 rfl ?_
  obtain ⟨g1, h⟩ := wt_gd h
  have lg1 := wt_lt g1
  refine wt_aald1 hE (hD 263 (by decide) (by decide)) wt_L263 g1 wp_md_isPrinted_d6 ?_
  refine wt_iconst hE (0 : Int32) wp_md_isPrinted_d7 wt_ci_0 ?_
  obtain ⟨g2, h⟩ := wt_gd h
  refine wt_iald hE (hD _ (by omega) (by omega)) (wt_G264 _ lg1) g2 wp_md_isPrinted_d8 ?_
  obtain ⟨q3, hq3, h⟩ := wt_bi h
  refine wt_callVv hE [.int (wt_ga σ (264 + Int32.toNatClampNeg x1) (Int32.toNatClampNeg (0 : Int32)))] wt_lm_md_310 wt_ya_md_needsText (wp_md_needsText_ok hD hq3) (by omega) (hD 108 (by decide) (by decide)) wt_L108 rfl rfl rfl (Nat.le_of_ble_eq_true rfl) (Nat.zero_le _) wp_md_isPrinted_d9 ?_
  refine wt_aload_n hE wp_md_isPrinted_d12 rfl ?_
  refine wt_aload_n hE wp_md_isPrinted_d13 rfl ?_
  refine wt_getr hE (r := 263) wt_lf_md_94 (hD 108 (by decide) (by decide)) wt_L108 rfl wp_md_isPrinted_d14 ?_
  refine wt_iload_n hE wp_md_isPrinted_d17 rfl ?_
  obtain ⟨g4, h⟩ := wt_gd h
  have lg4 := wt_lt g4
  refine wt_aald1 hE (hD 263 (by decide) (by decide)) wt_L263 g4 wp_md_isPrinted_d18 ?_
  refine wt_iconst hE (1 : Int32) wp_md_isPrinted_d19 wt_ci_1 ?_
  obtain ⟨g5, h⟩ := wt_gd h
  refine wt_iald hE (hD _ (by omega) (by omega)) (wt_G264 _ lg4) g5 wp_md_isPrinted_d20 ?_
  refine wt_iconst hE (4 : Int32) wp_md_isPrinted_d21 wt_ci_4 ?_
  obtain ⟨q6, hq6, h⟩ := wt_bi h
  refine wt_callVi hE [.int (wt_ga q3 (264 + Int32.toNatClampNeg x1) (Int32.toNatClampNeg (1 : Int32))), .int (4 : Int32)] wt_lm_md_322 wt_ya_md_takes (wp_md_takes_ok hD hq6) (by omega) (hD 108 (by decide) (by decide)) wt_L108 rfl rfl rfl (Nat.le_of_ble_eq_true rfl) (Nat.zero_le _) wp_md_isPrinted_d22 (fun hbq6 => ?_)
  refine wt_if_ne hE 30 wp_md_isPrinted_d25 rfl (fun c7 => ?_) (fun c7 => ?_)
  · have h := wt_in c7 h
    refine wt_iconst hE (0 : Int32) wp_md_isPrinted_d30 wt_ci_0 ?_
    refine wt_istore_n hE [some (.ref (wt_ad (wt_xw X) 108)), some (.int x1), some (.int (0 : Int32))] wp_md_isPrinted_d31 (by decide) rfl ?_
    exact wt_it_ind (fun z => wt_V X 0 z.2 32 [some (.ref (wt_ad (wt_xw X) 108)), some (.int x1), some (.int z.1)] []) (fun K hK z h => wp_md_isPrinted_B32_ok hE hR hD hK h) n ((0 : Int32), q6.2) h
  · have h := wt_ip c7 h
    refine wt_iconst hE (0 : Int32) wp_md_isPrinted_d28 wt_ci_0 ?_
    cases h
    exact wt_zret hE (by decide) hR wp_md_isPrinted_d29
def wb16m6_prog_13_method_76_code_r3 : List (List Nat) := [167, 255, 176, 21, 4, 172] :: []
def wb16m6_prog_13_method_76_code_r2 : List (List Nat) := [153, 0, 15, 21, 4, 4, 21, 6, 120, 128, 54, 4, 167, 0, 9, 28, 154, 0, 5, 2, 172, 132, 6, 1, 167, 255, 191, 132, 5, 1] :: wb16m6_prog_13_method_76_code_r3
def wb16m6_prog_13_method_76_code_r1 : List (List Nat) := [21, 6, 50, 5, 46, 21, 5, 160, 0, 42, 27, 21, 6, 122, 4, 126, 154, 0, 6, 167, 0, 30, 42, 21, 6, 182, 1, 100] :: wb16m6_prog_13_method_76_code_r2
def wb16m6_prog_13_method_76_code_r0 : List (List Nat) := [3, 54, 4, 3, 54, 5, 21, 5, 29, 162, 0, 80, 3, 54, 6, 21, 6, 42, 180, 1, 12, 162, 0, 62, 42, 180, 0, 94] :: wb16m6_prog_13_method_76_code_r1
set_option maxRecDepth 100000 in
theorem wb16m6_prog_13_method_76_code_c0 : wt_cs prog_13_method_76_code 0 wb16m6_prog_13_method_76_code_r0 := wt_cs_of (by decide +kernel)
theorem wb16m6_prog_13_method_76_code_c1 : wt_cs prog_13_method_76_code 28 wb16m6_prog_13_method_76_code_r1 := wt_cs_tl (m := 28) wb16m6_prog_13_method_76_code_c0 rfl rfl
theorem wb16m6_prog_13_method_76_code_c2 : wt_cs prog_13_method_76_code 56 wb16m6_prog_13_method_76_code_r2 := wt_cs_tl (m := 28) wb16m6_prog_13_method_76_code_c1 rfl rfl
theorem wb16m6_prog_13_method_76_code_c3 : wt_cs prog_13_method_76_code 86 wb16m6_prog_13_method_76_code_r3 := wt_cs_tl (m := 30) wb16m6_prog_13_method_76_code_c2 rfl rfl
theorem wp_md_prints_d0 : decode prog_13_method_76_code 0 = .ok (.iconst 0, 1) := wt_op3 wb16m6_prog_13_method_76_code_c0 0 rfl rfl
theorem wp_md_prints_d1 : decode prog_13_method_76_code 1 = .ok (.istore 4, 2) := wt_op54 wb16m6_prog_13_method_76_code_c0 1 rfl rfl
theorem wp_md_prints_d3 : decode prog_13_method_76_code 3 = .ok (.iconst 0, 1) := wt_op3 wb16m6_prog_13_method_76_code_c0 3 rfl rfl
theorem wp_md_prints_d4 : decode prog_13_method_76_code 4 = .ok (.istore 5, 2) := wt_op54 wb16m6_prog_13_method_76_code_c0 4 rfl rfl
theorem wp_md_prints_d6 : decode prog_13_method_76_code 6 = .ok (.iload 5, 2) := wt_op21 wb16m6_prog_13_method_76_code_c0 6 rfl rfl
theorem wp_md_prints_d8 : decode prog_13_method_76_code 8 = .ok (.iload_n 3, 1) := wt_op29 wb16m6_prog_13_method_76_code_c0 8 rfl rfl
theorem wp_md_prints_d9 : decode prog_13_method_76_code 9 = .ok (.if_icmp .ge 80, 3) := wt_op162 wb16m6_prog_13_method_76_code_c0 9 rfl rfl rfl
theorem wp_md_prints_d12 : decode prog_13_method_76_code 12 = .ok (.iconst 0, 1) := wt_op3 wb16m6_prog_13_method_76_code_c0 12 rfl rfl
theorem wp_md_prints_d13 : decode prog_13_method_76_code 13 = .ok (.istore 6, 2) := wt_op54 wb16m6_prog_13_method_76_code_c0 13 rfl rfl
theorem wp_md_prints_d15 : decode prog_13_method_76_code 15 = .ok (.iload 6, 2) := wt_op21 wb16m6_prog_13_method_76_code_c0 15 rfl rfl
theorem wp_md_prints_d17 : decode prog_13_method_76_code 17 = .ok (.aload_n 0, 1) := wt_op42 wb16m6_prog_13_method_76_code_c0 17 rfl rfl
theorem wp_md_prints_d18 : decode prog_13_method_76_code 18 = .ok (.getfield 268, 3) := wt_op180 wb16m6_prog_13_method_76_code_c0 18 rfl rfl rfl
theorem wp_md_prints_d21 : decode prog_13_method_76_code 21 = .ok (.if_icmp .ge 62, 3) := wt_op162 wb16m6_prog_13_method_76_code_c0 21 rfl rfl rfl
theorem wp_md_prints_d24 : decode prog_13_method_76_code 24 = .ok (.aload_n 0, 1) := wt_op42 wb16m6_prog_13_method_76_code_c0 24 rfl rfl
theorem wp_md_prints_d25 : decode prog_13_method_76_code 25 = .ok (.getfield 94, 3) := wt_op180 wb16m6_prog_13_method_76_code_c0 25 rfl rfl rfl
theorem wp_md_prints_d28 : decode prog_13_method_76_code 28 = .ok (.iload 6, 2) := wt_op21 wb16m6_prog_13_method_76_code_c1 0 rfl rfl
theorem wp_md_prints_d30 : decode prog_13_method_76_code 30 = .ok (.aaload, 1) := wt_op50 wb16m6_prog_13_method_76_code_c1 2 rfl rfl
theorem wp_md_prints_d31 : decode prog_13_method_76_code 31 = .ok (.iconst 2, 1) := wt_op5 wb16m6_prog_13_method_76_code_c1 3 rfl rfl
theorem wp_md_prints_d32 : decode prog_13_method_76_code 32 = .ok (.iaload, 1) := wt_op46 wb16m6_prog_13_method_76_code_c1 4 rfl rfl
theorem wp_md_prints_d33 : decode prog_13_method_76_code 33 = .ok (.iload 5, 2) := wt_op21 wb16m6_prog_13_method_76_code_c1 5 rfl rfl
theorem wp_md_prints_d35 : decode prog_13_method_76_code 35 = .ok (.if_icmp .ne 42, 3) := wt_op160 wb16m6_prog_13_method_76_code_c1 7 rfl rfl rfl
theorem wp_md_prints_d38 : decode prog_13_method_76_code 38 = .ok (.iload_n 1, 1) := wt_op27 wb16m6_prog_13_method_76_code_c1 10 rfl rfl
theorem wp_md_prints_d39 : decode prog_13_method_76_code 39 = .ok (.iload 6, 2) := wt_op21 wb16m6_prog_13_method_76_code_c1 11 rfl rfl
theorem wp_md_prints_d41 : decode prog_13_method_76_code 41 = .ok (.ishr, 1) := wt_op122 wb16m6_prog_13_method_76_code_c1 13 rfl rfl
theorem wp_md_prints_d42 : decode prog_13_method_76_code 42 = .ok (.iconst 1, 1) := wt_op4 wb16m6_prog_13_method_76_code_c1 14 rfl rfl
theorem wp_md_prints_d43 : decode prog_13_method_76_code 43 = .ok (.iand, 1) := wt_op126 wb16m6_prog_13_method_76_code_c1 15 rfl rfl
theorem wp_md_prints_d44 : decode prog_13_method_76_code 44 = .ok (.ifCond .ne 6, 3) := wt_op154 wb16m6_prog_13_method_76_code_c1 16 rfl rfl rfl
theorem wp_md_prints_d47 : decode prog_13_method_76_code 47 = .ok (.goto 30, 3) := wt_op167 wb16m6_prog_13_method_76_code_c1 19 rfl rfl rfl
theorem wp_md_prints_d50 : decode prog_13_method_76_code 50 = .ok (.aload_n 0, 1) := wt_op42 wb16m6_prog_13_method_76_code_c1 22 rfl rfl
theorem wp_md_prints_d51 : decode prog_13_method_76_code 51 = .ok (.iload 6, 2) := wt_op21 wb16m6_prog_13_method_76_code_c1 23 rfl rfl
theorem wp_md_prints_d53 : decode prog_13_method_76_code 53 = .ok (.invokevirtual 356, 3) := wt_op182 wb16m6_prog_13_method_76_code_c1 25 rfl rfl rfl
theorem wp_md_prints_d56 : decode prog_13_method_76_code 56 = .ok (.ifCond .eq 15, 3) := wt_op153 wb16m6_prog_13_method_76_code_c2 0 rfl rfl rfl
theorem wp_md_prints_d59 : decode prog_13_method_76_code 59 = .ok (.iload 4, 2) := wt_op21 wb16m6_prog_13_method_76_code_c2 3 rfl rfl
theorem wp_md_prints_d61 : decode prog_13_method_76_code 61 = .ok (.iconst 1, 1) := wt_op4 wb16m6_prog_13_method_76_code_c2 5 rfl rfl
theorem wp_md_prints_d62 : decode prog_13_method_76_code 62 = .ok (.iload 6, 2) := wt_op21 wb16m6_prog_13_method_76_code_c2 6 rfl rfl
theorem wp_md_prints_d64 : decode prog_13_method_76_code 64 = .ok (.ishl, 1) := wt_op120 wb16m6_prog_13_method_76_code_c2 8 rfl rfl
theorem wp_md_prints_d65 : decode prog_13_method_76_code 65 = .ok (.ior, 1) := wt_op128 wb16m6_prog_13_method_76_code_c2 9 rfl rfl
theorem wp_md_prints_d66 : decode prog_13_method_76_code 66 = .ok (.istore 4, 2) := wt_op54 wb16m6_prog_13_method_76_code_c2 10 rfl rfl
theorem wp_md_prints_d68 : decode prog_13_method_76_code 68 = .ok (.goto 9, 3) := wt_op167 wb16m6_prog_13_method_76_code_c2 12 rfl rfl rfl
theorem wp_md_prints_d71 : decode prog_13_method_76_code 71 = .ok (.iload_n 2, 1) := wt_op28 wb16m6_prog_13_method_76_code_c2 15 rfl rfl
theorem wp_md_prints_d72 : decode prog_13_method_76_code 72 = .ok (.ifCond .ne 5, 3) := wt_op154 wb16m6_prog_13_method_76_code_c2 16 rfl rfl rfl
theorem wp_md_prints_d75 : decode prog_13_method_76_code 75 = .ok (.iconst (-1), 1) := wt_op2 wb16m6_prog_13_method_76_code_c2 19 rfl rfl
theorem wp_md_prints_d76 : decode prog_13_method_76_code 76 = .ok (.ireturn, 1) := wt_op172 wb16m6_prog_13_method_76_code_c2 20 rfl rfl
theorem wp_md_prints_d77 : decode prog_13_method_76_code 77 = .ok (.iinc 6 1, 3) := wt_op132 wb16m6_prog_13_method_76_code_c2 21 rfl rfl rfl
theorem wp_md_prints_d80 : decode prog_13_method_76_code 80 = .ok (.goto (-65), 3) := wt_op167 wb16m6_prog_13_method_76_code_c2 24 rfl rfl rfl
theorem wp_md_prints_d83 : decode prog_13_method_76_code 83 = .ok (.iinc 5 1, 3) := wt_op132 wb16m6_prog_13_method_76_code_c2 27 rfl rfl rfl
theorem wp_md_prints_d86 : decode prog_13_method_76_code 86 = .ok (.goto (-80), 3) := wt_op167 wb16m6_prog_13_method_76_code_c3 0 rfl rfl rfl
theorem wp_md_prints_d89 : decode prog_13_method_76_code 89 = .ok (.iload 4, 2) := wt_op21 wb16m6_prog_13_method_76_code_c3 3 rfl rfl
theorem wp_md_prints_d91 : decode prog_13_method_76_code 91 = .ok (.ireturn, 1) := wt_op172 wb16m6_prog_13_method_76_code_c3 5 rfl rfl
noncomputable def wp_md_prints_B77 (n : Nat) (x1 : Int32) (x2 : Int32) (x3 : Int32) (x4 : Int32) (x5 : Int32) (x6 : Int32) (K6 : Int32 × Int32 × wt_St → Option (Int32 × wt_St)) (K15 : Int32 × Int32 × wt_St → Option (Int32 × wt_St)) (σ : wt_St) : Option (Int32 × wt_St) :=
  K15 (x4, (x6 + (1 : Int32)), σ)
set_option maxRecDepth 100000 in
set_option maxHeartbeats 4000000 in
theorem wp_md_prints_B77_ok  {x1 : Int32} {x2 : Int32} {x3 : Int32} {x4 : Int32} {x5 : Int32} {x6 : Int32} {X : wt_X} {n : Nat} {res : Int32 × wt_St} (hE : wt_Ok X prog_13_method_76_code 7 "WornTypeModel" 5 0) (hR : wt_Rt X (some .int) (some res.1) res.2) (hD : ∀ i, 108 ≤ i → i < 321 → wt_dom (wt_xw X) i)  {K6 : Int32 × Int32 × wt_St → Option (Int32 × wt_St)} (hK6 : ∀ s : Int32 × Int32 × wt_St, K6 s = some res → wt_V X 0 s.2.2 6 [some (.ref (wt_ad (wt_xw X) 108)), some (.int x1), some (.int x2), some (.int x3), some (.int s.1), some (.int s.2.1), none] []) {K15 : Int32 × Int32 × wt_St → Option (Int32 × wt_St)} (hK15 : ∀ s : Int32 × Int32 × wt_St, K15 s = some res → wt_V X 0 s.2.2 15 [some (.ref (wt_ad (wt_xw X) 108)), some (.int x1), some (.int x2), some (.int x3), some (.int s.1), some (.int x5), some (.int s.2.1)] []) {σ : wt_St} (h : wp_md_prints_B77 n x1 x2 x3 x4 x5 x6 K6 K15 σ = some res) : wt_V X 0 σ 77 [some (.ref (wt_ad (wt_xw X) 108)), some (.int x1), some (.int x2), some (.int x3), some (.int x4), some (.int x5), some (.int x6)] [] := by
  unfold wp_md_prints_B77 at h
  refine wt_iinc hE (x6 + (1 : Int32)) [some (.ref (wt_ad (wt_xw X) 108)), some (.int x1), some (.int x2), some (.int x3), some (.int x4), some (.int x5), some (.int (x6 + (1 : Int32)))] wp_md_prints_d77 (by decide) rfl rfl rfl ?_
  refine wt_goto hE 15 wp_md_prints_d80 rfl ?_
  exact hK15 (x4, (x6 + (1 : Int32)), σ) h
noncomputable def wp_md_prints_B15 (n : Nat) (x1 : Int32) (x2 : Int32) (x3 : Int32) (x5 : Int32) (K6 : Int32 × Int32 × wt_St → Option (Int32 × wt_St)) (K15 : Int32 × Int32 × wt_St → Option (Int32 × wt_St)) (s : Int32 × Int32 × wt_St) : Option (Int32 × wt_St) :=
  if (wt_gf s.2.2 108 40) ≤ s.2.1 then
    K6 (s.1, (x5 + (1 : Int32)), s.2.2)
  else
    if s.2.1 < 0 ∨ 10 ≤ Int32.toNatClampNeg s.2.1 then none else
    if (2 : Int32) < 0 ∨ 4 ≤ Int32.toNatClampNeg (2 : Int32) then none else
    if (wt_ga s.2.2 (264 + Int32.toNatClampNeg s.2.1) (Int32.toNatClampNeg (2 : Int32))) = x5 then
      if ((x1 >>> (s.2.1 &&& 31)) &&& (1 : Int32)) = 0 then
        wp_md_prints_B77 n x1 x2 x3 s.1 x5 s.2.1 K6 K15 s.2.2
      else
        (wp_md_isPrinted n s.2.1 s.2.2).bind fun q7 =>
        if q7.1 = 0 then
          if x2 = 0 then
            some ((-1 : Int32), q7.2)
          else
            wp_md_prints_B77 n x1 x2 x3 s.1 x5 s.2.1 K6 K15 q7.2
        else
          wp_md_prints_B77 n x1 x2 x3 (s.1 ||| ((1 : Int32) <<< (s.2.1 &&& 31))) x5 s.2.1 K6 K15 q7.2
    else
      wp_md_prints_B77 n x1 x2 x3 s.1 x5 s.2.1 K6 K15 s.2.2
set_option maxRecDepth 100000 in
set_option maxHeartbeats 4000000 in
theorem wp_md_prints_B15_ok  {x1 : Int32} {x2 : Int32} {x3 : Int32} {x5 : Int32} {X : wt_X} {n : Nat} {res : Int32 × wt_St} (hE : wt_Ok X prog_13_method_76_code 7 "WornTypeModel" 5 0) (hR : wt_Rt X (some .int) (some res.1) res.2) (hD : ∀ i, 108 ≤ i → i < 321 → wt_dom (wt_xw X) i)  {K6 : Int32 × Int32 × wt_St → Option (Int32 × wt_St)} (hK6 : ∀ s : Int32 × Int32 × wt_St, K6 s = some res → wt_V X 0 s.2.2 6 [some (.ref (wt_ad (wt_xw X) 108)), some (.int x1), some (.int x2), some (.int x3), some (.int s.1), some (.int s.2.1), none] []) {K15 : Int32 × Int32 × wt_St → Option (Int32 × wt_St)} (hK15 : ∀ s : Int32 × Int32 × wt_St, K15 s = some res → wt_V X 0 s.2.2 15 [some (.ref (wt_ad (wt_xw X) 108)), some (.int x1), some (.int x2), some (.int x3), some (.int s.1), some (.int x5), some (.int s.2.1)] []) {s : Int32 × Int32 × wt_St} (h : wp_md_prints_B15 n x1 x2 x3 x5 K6 K15 s = some res) : wt_V X 0 s.2.2 15 [some (.ref (wt_ad (wt_xw X) 108)), some (.int x1), some (.int x2), some (.int x3), some (.int s.1), some (.int x5), some (.int s.2.1)] [] := by
  unfold wp_md_prints_B15 at h
  refine wt_iload hE wp_md_prints_d15 rfl ?_
  refine wt_aload_n hE wp_md_prints_d17 rfl ?_
  refine wt_geti hE wt_lf_md_268 (hD 108 (by decide) (by decide)) wt_L108 rfl wp_md_prints_d18 ?_
  refine wt_icmp_ge hE 83 wp_md_prints_d21 rfl (fun c2 => ?_) (fun c2 => ?_)
  · have h := wt_ip c2 h
    refine wt_iinc hE (x5 + (1 : Int32)) [some (.ref (wt_ad (wt_xw X) 108)), some (.int x1), some (.int x2), some (.int x3), some (.int s.1), some (.int (x5 + (1 : Int32))), some (.int s.2.1)] wp_md_prints_d83 (by decide) rfl rfl rfl ?_
    refine wt_goto hE 6 wp_md_prints_d86 rfl ?_
    refine wt_wk [true, true, true, true, true, true, false] rfl ?_
    exact hK6 (s.1, (x5 + (1 : Int32)), s.2.2) h
  · have h := wt_in c2 h
    refine wt_aload_n hE wp_md_prints_d24 rfl ?_
    refine wt_getr hE (r := 263) wt_lf_md_94 (hD 108 (by decide) (by decide)) wt_L108 rfl wp_md_prints_d25 ?_
    refine wt_iload hE wp_md_prints_d28 rfl ?_
    obtain ⟨g3, h⟩ := wt_gd h
    have lg3 := wt_lt g3
    refine wt_aald1 hE (hD 263 (by decide) (by decide)) wt_L263 g3 wp_md_prints_d30 ?_
    refine wt_iconst hE (2 : Int32) wp_md_prints_d31 wt_ci_2 ?_
    obtain ⟨g4, h⟩ := wt_gd h
    refine wt_iald hE (hD _ (by omega) (by omega)) (wt_G264 _ lg3) g4 wp_md_prints_d32 ?_
    refine wt_iload hE wp_md_prints_d33 rfl ?_
    refine wt_icmp_ne hE 77 wp_md_prints_d35 rfl (fun c5 => ?_) (fun c5 => ?_)
    · have h := wt_in c5 h
      exact wp_md_prints_B77_ok hE hR hD hK6 hK15 h
    · have h := wt_ip c5 h
      refine wt_iload_n hE wp_md_prints_d38 rfl ?_
      refine wt_iload hE wp_md_prints_d39 rfl ?_
      refine wt_ishr hE wp_md_prints_d41 ?_
      refine wt_iconst hE (1 : Int32) wp_md_prints_d42 wt_ci_1 ?_
      refine wt_iand hE wp_md_prints_d43 ?_
      refine wt_if_ne hE 50 wp_md_prints_d44 rfl (fun c6 => ?_) (fun c6 => ?_)
      · have h := wt_in c6 h
        refine wt_aload_n hE wp_md_prints_d50 rfl ?_
        refine wt_iload hE wp_md_prints_d51 rfl ?_
        obtain ⟨q7, hq7, h⟩ := wt_bi h
        refine wt_callVi hE [.int s.2.1] wt_lm_md_356 wt_ya_md_isPrinted (wp_md_isPrinted_ok hD hq7) (by omega) (hD 108 (by decide) (by decide)) wt_L108 rfl rfl rfl (Nat.le_of_ble_eq_true rfl) (Nat.zero_le _) wp_md_prints_d53 (fun hbq7 => ?_)
        refine wt_if_eq hE 71 wp_md_prints_d56 rfl (fun c8 => ?_) (fun c8 => ?_)
        · have h := wt_ip c8 h
          refine wt_iload_n hE wp_md_prints_d71 rfl ?_
          refine wt_if_ne hE 77 wp_md_prints_d72 rfl (fun c9 => ?_) (fun c9 => ?_)
          · have h := wt_in c9 h
            exact wp_md_prints_B77_ok hE hR hD hK6 hK15 h
          · have h := wt_ip c9 h
            refine wt_iconst hE (-1 : Int32) wp_md_prints_d75 wt_ci_m1 ?_
            cases h
            exact wt_iret hE hR wp_md_prints_d76
        · have h := wt_in c8 h
          refine wt_iload hE wp_md_prints_d59 rfl ?_
          refine wt_iconst hE (1 : Int32) wp_md_prints_d61 wt_ci_1 ?_
          refine wt_iload hE wp_md_prints_d62 rfl ?_
          refine wt_ishl hE wp_md_prints_d64 ?_
          refine wt_ior hE wp_md_prints_d65 ?_
          refine wt_istore hE [some (.ref (wt_ad (wt_xw X) 108)), some (.int x1), some (.int x2), some (.int x3), some (.int (s.1 ||| ((1 : Int32) <<< (s.2.1 &&& 31)))), some (.int x5), some (.int s.2.1)] wp_md_prints_d66 (Nat.le_of_ble_eq_true rfl) rfl ?_
          refine wt_goto hE 77 wp_md_prints_d68 rfl ?_
          exact wp_md_prints_B77_ok hE hR hD hK6 hK15 h
      · have h := wt_ip c6 h
        refine wt_goto hE 77 wp_md_prints_d47 rfl ?_
        exact wp_md_prints_B77_ok hE hR hD hK6 hK15 h
noncomputable def wp_md_prints_B6 (n : Nat) (x1 : Int32) (x2 : Int32) (x3 : Int32) (K6 : Int32 × Int32 × wt_St → Option (Int32 × wt_St)) (s : Int32 × Int32 × wt_St) : Option (Int32 × wt_St) :=
  if x3 ≤ s.2.1 then
    some (s.1, s.2.2)
  else
    wt_it (wp_md_prints_B15 n x1 x2 x3 s.2.1 K6) n (s.1, (0 : Int32), s.2.2)
set_option maxRecDepth 100000 in
set_option maxHeartbeats 4000000 in
theorem wp_md_prints_B6_ok  {x1 : Int32} {x2 : Int32} {x3 : Int32} {X : wt_X} {n : Nat} {res : Int32 × wt_St} (hE : wt_Ok X prog_13_method_76_code 7 "WornTypeModel" 5 0) (hR : wt_Rt X (some .int) (some res.1) res.2) (hD : ∀ i, 108 ≤ i → i < 321 → wt_dom (wt_xw X) i)  {K6 : Int32 × Int32 × wt_St → Option (Int32 × wt_St)} (hK6 : ∀ s : Int32 × Int32 × wt_St, K6 s = some res → wt_V X 0 s.2.2 6 [some (.ref (wt_ad (wt_xw X) 108)), some (.int x1), some (.int x2), some (.int x3), some (.int s.1), some (.int s.2.1), none] []) {s : Int32 × Int32 × wt_St} (h : wp_md_prints_B6 n x1 x2 x3 K6 s = some res) : wt_V X 0 s.2.2 6 [some (.ref (wt_ad (wt_xw X) 108)), some (.int x1), some (.int x2), some (.int x3), some (.int s.1), some (.int s.2.1), none] [] := by
  unfold wp_md_prints_B6 at h
  refine wt_iload hE wp_md_prints_d6 rfl ?_
  refine wt_iload_n hE wp_md_prints_d8 rfl ?_
  refine wt_icmp_ge hE 89 wp_md_prints_d9 rfl (fun c1 => ?_) (fun c1 => ?_)
  · have h := wt_ip c1 h
    refine wt_iload hE wp_md_prints_d89 rfl ?_
    cases h
    exact wt_iret hE hR wp_md_prints_d91
  · have h := wt_in c1 h
    refine wt_iconst hE (0 : Int32) wp_md_prints_d12 wt_ci_0 ?_
    refine wt_istore hE [some (.ref (wt_ad (wt_xw X) 108)), some (.int x1), some (.int x2), some (.int x3), some (.int s.1), some (.int s.2.1), some (.int (0 : Int32))] wp_md_prints_d13 (Nat.le_of_ble_eq_true rfl) rfl ?_
    exact wt_it_ind (fun z => wt_V X 0 z.2.2 15 [some (.ref (wt_ad (wt_xw X) 108)), some (.int x1), some (.int x2), some (.int x3), some (.int z.1), some (.int s.2.1), some (.int z.2.1)] []) (fun K hK z h => wp_md_prints_B15_ok hE hR hD hK6 hK h) n (s.1, (0 : Int32), s.2.2) h
noncomputable def wp_md_prints (n : Nat) (x1 : Int32) (x2 : Int32) (x3 : Int32) (σ : wt_St) : Option (Int32 × wt_St) :=
  wt_it (wp_md_prints_B6 n x1 x2 x3) n ((0 : Int32), (0 : Int32), σ)
set_option maxRecDepth 100000 in
set_option maxHeartbeats 4000000 in
theorem wp_md_prints_ok {l : Launch} {w : wt_E} {n : Nat} {x1 : Int32} {x2 : Int32} {x3 : Int32} (hD : ∀ i, 108 ≤ i → i < 321 → wt_dom w i) {σ : wt_St} {q : Int32 × wt_St} (h : wp_md_prints n x1 x2 x3 σ = some q) : wt_Ctr l w wt_y_md_prints prog_13_method_76_code 7 (some .int) 5 [.ref (wt_ad w 108), .int x1, .int x2, .int x3] σ (some q.1) q.2 := by
  refine wt_ctr wt_pl_md_prints rfl (Nat.le_of_ble_eq_true rfl) [some (.ref (wt_ad w 108)), some (.int x1), some (.int x2), some (.int x3), none, none, none] rfl ?_
  intro X hXl hXw hE hR
  subst hXl
  subst hXw
  have hE : wt_Ok X prog_13_method_76_code 7 "WornTypeModel" 5 0 := hE
  unfold wp_md_prints at h
  refine wt_iconst hE (0 : Int32) wp_md_prints_d0 wt_ci_0 ?_
  refine wt_istore hE [some (.ref (wt_ad (wt_xw X) 108)), some (.int x1), some (.int x2), some (.int x3), some (.int (0 : Int32)), none, none] wp_md_prints_d1 (Nat.le_of_ble_eq_true rfl) rfl ?_
  refine wt_iconst hE (0 : Int32) wp_md_prints_d3 wt_ci_0 ?_
  refine wt_istore hE [some (.ref (wt_ad (wt_xw X) 108)), some (.int x1), some (.int x2), some (.int x3), some (.int (0 : Int32)), some (.int (0 : Int32)), none] wp_md_prints_d4 (Nat.le_of_ble_eq_true rfl) rfl ?_
  exact wt_it_ind (fun z => wt_V X 0 z.2.2 6 [some (.ref (wt_ad (wt_xw X) 108)), some (.int x1), some (.int x2), some (.int x3), some (.int z.1), some (.int z.2.1), none] []) (fun K hK z h => wp_md_prints_B6_ok hE hR hD hK h) n ((0 : Int32), (0 : Int32), σ) h
def wb16m6_prog_13_method_73_code_r0 : List (List Nat) := [3, 60, 27, 17, 1, 82, 162, 0, 21, 42, 180, 0, 112, 27, 42, 180, 0, 50, 27, 46, 79, 132, 1, 1, 167, 255, 234, 177] :: []
set_option maxRecDepth 100000 in
theorem wb16m6_prog_13_method_73_code_c0 : wt_cs prog_13_method_73_code 0 wb16m6_prog_13_method_73_code_r0 := wt_cs_of (by decide +kernel)
theorem wp_md_puts_d0 : decode prog_13_method_73_code 0 = .ok (.iconst 0, 1) := wt_op3 wb16m6_prog_13_method_73_code_c0 0 rfl rfl
theorem wp_md_puts_d1 : decode prog_13_method_73_code 1 = .ok (.istore_n 1, 1) := wt_op60 wb16m6_prog_13_method_73_code_c0 1 rfl rfl
theorem wp_md_puts_d2 : decode prog_13_method_73_code 2 = .ok (.iload_n 1, 1) := wt_op27 wb16m6_prog_13_method_73_code_c0 2 rfl rfl
theorem wp_md_puts_d3 : decode prog_13_method_73_code 3 = .ok (.sipush 338, 3) := wt_op17 wb16m6_prog_13_method_73_code_c0 3 rfl rfl rfl
theorem wp_md_puts_d6 : decode prog_13_method_73_code 6 = .ok (.if_icmp .ge 21, 3) := wt_op162 wb16m6_prog_13_method_73_code_c0 6 rfl rfl rfl
theorem wp_md_puts_d9 : decode prog_13_method_73_code 9 = .ok (.aload_n 0, 1) := wt_op42 wb16m6_prog_13_method_73_code_c0 9 rfl rfl
theorem wp_md_puts_d10 : decode prog_13_method_73_code 10 = .ok (.getfield 112, 3) := wt_op180 wb16m6_prog_13_method_73_code_c0 10 rfl rfl rfl
theorem wp_md_puts_d13 : decode prog_13_method_73_code 13 = .ok (.iload_n 1, 1) := wt_op27 wb16m6_prog_13_method_73_code_c0 13 rfl rfl
theorem wp_md_puts_d14 : decode prog_13_method_73_code 14 = .ok (.aload_n 0, 1) := wt_op42 wb16m6_prog_13_method_73_code_c0 14 rfl rfl
theorem wp_md_puts_d15 : decode prog_13_method_73_code 15 = .ok (.getfield 50, 3) := wt_op180 wb16m6_prog_13_method_73_code_c0 15 rfl rfl rfl
theorem wp_md_puts_d18 : decode prog_13_method_73_code 18 = .ok (.iload_n 1, 1) := wt_op27 wb16m6_prog_13_method_73_code_c0 18 rfl rfl
theorem wp_md_puts_d19 : decode prog_13_method_73_code 19 = .ok (.iaload, 1) := wt_op46 wb16m6_prog_13_method_73_code_c0 19 rfl rfl
theorem wp_md_puts_d20 : decode prog_13_method_73_code 20 = .ok (.iastore, 1) := wt_op79 wb16m6_prog_13_method_73_code_c0 20 rfl rfl
theorem wp_md_puts_d21 : decode prog_13_method_73_code 21 = .ok (.iinc 1 1, 3) := wt_op132 wb16m6_prog_13_method_73_code_c0 21 rfl rfl rfl
theorem wp_md_puts_d24 : decode prog_13_method_73_code 24 = .ok (.goto (-22), 3) := wt_op167 wb16m6_prog_13_method_73_code_c0 24 rfl rfl rfl
theorem wp_md_puts_d27 : decode prog_13_method_73_code 27 = .ok (.return_, 1) := wt_op177 wb16m6_prog_13_method_73_code_c0 27 rfl rfl
noncomputable def wp_md_puts_B2 (n : Nat) (K2 : Int32 × wt_St → Option (wt_St)) (s : Int32 × wt_St) : Option (wt_St) :=
  if (338 : Int32) ≤ s.1 then
    some s.2
  else
    if s.1 < 0 ∨ 338 ≤ Int32.toNatClampNeg s.1 then none else
    if s.1 < 0 ∨ 338 ≤ Int32.toNatClampNeg s.1 then none else
    K2 ((s.1 + (1 : Int32)), (wt_sa s.2 286 (Int32.toNatClampNeg s.1) (wt_ga s.2 121 (Int32.toNatClampNeg s.1))))
set_option maxRecDepth 100000 in
set_option maxHeartbeats 4000000 in
theorem wp_md_puts_B2_ok  {X : wt_X} {n : Nat} {res : wt_St} (hE : wt_Ok X prog_13_method_73_code 2 "WornTypeModel" 0 0) (hR : wt_Rt X none none res) (hD : ∀ i, 108 ≤ i → i < 321 → wt_dom (wt_xw X) i)  {K2 : Int32 × wt_St → Option (wt_St)} (hK2 : ∀ s : Int32 × wt_St, K2 s = some res → wt_V X 0 s.2 2 [some (.ref (wt_ad (wt_xw X) 108)), some (.int s.1)] []) {s : Int32 × wt_St} (h : wp_md_puts_B2 n K2 s = some res) : wt_V X 0 s.2 2 [some (.ref (wt_ad (wt_xw X) 108)), some (.int s.1)] [] := by
  unfold wp_md_puts_B2 at h
  refine wt_iload_n hE wp_md_puts_d2 rfl ?_
  refine wt_sipush hE (338 : Int32) wp_md_puts_d3 wt_cs_338 ?_
  refine wt_icmp_ge hE 27 wp_md_puts_d6 rfl (fun c1 => ?_) (fun c1 => ?_)
  · have h := wt_ip c1 h
    cases h
    exact wt_vret hE hR wp_md_puts_d27
  · have h := wt_in c1 h
    refine wt_aload_n hE wp_md_puts_d9 rfl ?_
    refine wt_getr hE (r := 286) wt_lf_md_112 (hD 108 (by decide) (by decide)) wt_L108 rfl wp_md_puts_d10 ?_
    refine wt_iload_n hE wp_md_puts_d13 rfl ?_
    refine wt_aload_n hE wp_md_puts_d14 rfl ?_
    refine wt_getr hE (r := 121) wt_lf_md_50 (hD 108 (by decide) (by decide)) wt_L108 rfl wp_md_puts_d15 ?_
    refine wt_iload_n hE wp_md_puts_d18 rfl ?_
    obtain ⟨g2, h⟩ := wt_gd h
    refine wt_iald hE (hD 121 (by decide) (by decide)) wt_L121 g2 wp_md_puts_d19 ?_
    obtain ⟨g3, h⟩ := wt_gd h
    refine wt_iast hE (hD 286 (by decide) (by decide)) wt_L286 g3 wp_md_puts_d20 ?_
    refine wt_iinc hE (s.1 + (1 : Int32)) [some (.ref (wt_ad (wt_xw X) 108)), some (.int (s.1 + (1 : Int32)))] wp_md_puts_d21 (by decide) rfl rfl rfl ?_
    refine wt_goto hE 2 wp_md_puts_d24 rfl ?_
    exact hK2 ((s.1 + (1 : Int32)), (wt_sa s.2 286 (Int32.toNatClampNeg s.1) (wt_ga s.2 121 (Int32.toNatClampNeg s.1)))) h
noncomputable def wp_md_puts (n : Nat) (σ : wt_St) : Option (wt_St) :=
  wt_it (wp_md_puts_B2 n) n ((0 : Int32), σ)
set_option maxRecDepth 100000 in
set_option maxHeartbeats 4000000 in
theorem wp_md_puts_ok {l : Launch} {w : wt_E} {n : Nat} (hD : ∀ i, 108 ≤ i → i < 321 → wt_dom w i) {σ : wt_St} {q : wt_St} (h : wp_md_puts n σ = some q) : wt_Ctr l w wt_y_md_puts prog_13_method_73_code 2 none 0 [.ref (wt_ad w 108)] σ none q := by
  refine wt_ctr wt_pl_md_puts rfl (Nat.le_of_ble_eq_true rfl) [some (.ref (wt_ad w 108)), none] rfl ?_
  intro X hXl hXw hE hR
  subst hXl
  subst hXw
  have hE : wt_Ok X prog_13_method_73_code 2 "WornTypeModel" 0 0 := hE
  unfold wp_md_puts at h
  refine wt_iconst hE (0 : Int32) wp_md_puts_d0 wt_ci_0 ?_
  refine wt_istore_n hE [some (.ref (wt_ad (wt_xw X) 108)), some (.int (0 : Int32))] wp_md_puts_d1 (by decide) rfl ?_
  exact wt_it_ind (fun z => wt_V X 0 z.2 2 [some (.ref (wt_ad (wt_xw X) 108)), some (.int z.1)] []) (fun K hK z h => wp_md_puts_B2_ok hE hR hD hK h) n ((0 : Int32), σ) h
def wb16m6_prog_13_method_79_code_r0 : List (List Nat) := [42, 182, 1, 103, 42, 4, 42, 180, 1, 12, 120, 4, 100, 4, 27, 182, 1, 106, 172] :: []
set_option maxRecDepth 100000 in
theorem wb16m6_prog_13_method_79_code_c0 : wt_cs prog_13_method_79_code 0 wb16m6_prog_13_method_79_code_r0 := wt_cs_of (by decide +kernel)
theorem wp_md_greedyAhead_d0 : decode prog_13_method_79_code 0 = .ok (.aload_n 0, 1) := wt_op42 wb16m6_prog_13_method_79_code_c0 0 rfl rfl
theorem wp_md_greedyAhead_d1 : decode prog_13_method_79_code 1 = .ok (.invokevirtual 359, 3) := wt_op182 wb16m6_prog_13_method_79_code_c0 1 rfl rfl rfl
theorem wp_md_greedyAhead_d4 : decode prog_13_method_79_code 4 = .ok (.aload_n 0, 1) := wt_op42 wb16m6_prog_13_method_79_code_c0 4 rfl rfl
theorem wp_md_greedyAhead_d5 : decode prog_13_method_79_code 5 = .ok (.iconst 1, 1) := wt_op4 wb16m6_prog_13_method_79_code_c0 5 rfl rfl
theorem wp_md_greedyAhead_d6 : decode prog_13_method_79_code 6 = .ok (.aload_n 0, 1) := wt_op42 wb16m6_prog_13_method_79_code_c0 6 rfl rfl
theorem wp_md_greedyAhead_d7 : decode prog_13_method_79_code 7 = .ok (.getfield 268, 3) := wt_op180 wb16m6_prog_13_method_79_code_c0 7 rfl rfl rfl
theorem wp_md_greedyAhead_d10 : decode prog_13_method_79_code 10 = .ok (.ishl, 1) := wt_op120 wb16m6_prog_13_method_79_code_c0 10 rfl rfl
theorem wp_md_greedyAhead_d11 : decode prog_13_method_79_code 11 = .ok (.iconst 1, 1) := wt_op4 wb16m6_prog_13_method_79_code_c0 11 rfl rfl
theorem wp_md_greedyAhead_d12 : decode prog_13_method_79_code 12 = .ok (.isub, 1) := wt_op100 wb16m6_prog_13_method_79_code_c0 12 rfl rfl
theorem wp_md_greedyAhead_d13 : decode prog_13_method_79_code 13 = .ok (.iconst 1, 1) := wt_op4 wb16m6_prog_13_method_79_code_c0 13 rfl rfl
theorem wp_md_greedyAhead_d14 : decode prog_13_method_79_code 14 = .ok (.iload_n 1, 1) := wt_op27 wb16m6_prog_13_method_79_code_c0 14 rfl rfl
theorem wp_md_greedyAhead_d15 : decode prog_13_method_79_code 15 = .ok (.invokevirtual 362, 3) := wt_op182 wb16m6_prog_13_method_79_code_c0 15 rfl rfl rfl
theorem wp_md_greedyAhead_d18 : decode prog_13_method_79_code 18 = .ok (.ireturn, 1) := wt_op172 wb16m6_prog_13_method_79_code_c0 18 rfl rfl
noncomputable def wp_md_greedyAhead (n : Nat) (x1 : Int32) (σ : wt_St) : Option (Int32 × wt_St) :=
  (wp_md_puts n σ).bind fun q1 =>
  (wp_md_prints n (((1 : Int32) <<< ((wt_gf q1 108 40) &&& 31)) - (1 : Int32)) (1 : Int32) x1 q1).bind fun q2 =>
  some (q2.1, q2.2)
set_option maxRecDepth 100000 in
set_option maxHeartbeats 4000000 in
theorem wp_md_greedyAhead_ok {l : Launch} {w : wt_E} {n : Nat} {x1 : Int32} (hD : ∀ i, 108 ≤ i → i < 321 → wt_dom w i) {σ : wt_St} {q : Int32 × wt_St} (h : wp_md_greedyAhead n x1 σ = some q) : wt_Ctr l w wt_y_md_greedyAhead prog_13_method_79_code 2 (some .int) 6 [.ref (wt_ad w 108), .int x1] σ (some q.1) q.2 := by
  refine wt_ctr wt_pl_md_greedyAhead rfl (Nat.le_of_ble_eq_true rfl) [some (.ref (wt_ad w 108)), some (.int x1)] rfl ?_
  intro X hXl hXw hE hR
  subst hXl
  subst hXw
  have hE : wt_Ok X prog_13_method_79_code 2 "WornTypeModel" 6 0 := hE
  unfold wp_md_greedyAhead at h
  refine wt_aload_n hE wp_md_greedyAhead_d0 rfl ?_
  obtain ⟨q1, hq1, h⟩ := wt_bi h
  refine wt_callVv hE [] wt_lm_md_359 wt_ya_md_puts (wp_md_puts_ok hD hq1) (by omega) (hD 108 (by decide) (by decide)) wt_L108 rfl rfl rfl (Nat.le_of_ble_eq_true rfl) (Nat.zero_le _) wp_md_greedyAhead_d1 ?_
  refine wt_aload_n hE wp_md_greedyAhead_d4 rfl ?_
  refine wt_iconst hE (1 : Int32) wp_md_greedyAhead_d5 wt_ci_1 ?_
  refine wt_aload_n hE wp_md_greedyAhead_d6 rfl ?_
  refine wt_geti hE wt_lf_md_268 (hD 108 (by decide) (by decide)) wt_L108 rfl wp_md_greedyAhead_d7 ?_
  refine wt_ishl hE wp_md_greedyAhead_d10 ?_
  refine wt_iconst hE (1 : Int32) wp_md_greedyAhead_d11 wt_ci_1 ?_
  refine wt_isub hE wp_md_greedyAhead_d12 ?_
  refine wt_iconst hE (1 : Int32) wp_md_greedyAhead_d13 wt_ci_1 ?_
  refine wt_iload_n hE wp_md_greedyAhead_d14 rfl ?_
  obtain ⟨q2, hq2, h⟩ := wt_bi h
  refine wt_callVi hE [.int (((1 : Int32) <<< ((wt_gf q1 108 40) &&& 31)) - (1 : Int32)), .int (1 : Int32), .int x1] wt_lm_md_362 wt_ya_md_prints (wp_md_prints_ok hD hq2) (by omega) (hD 108 (by decide) (by decide)) wt_L108 rfl rfl rfl (Nat.le_of_ble_eq_true rfl) (Nat.zero_le _) wp_md_greedyAhead_d15 (fun hbq2 => ?_)
  cases h
  exact wt_iret hE hR wp_md_greedyAhead_d18
def wb16m6_prog_13_method_41_code_r0 : List (List Nat) := [27, 3, 42, 180, 1, 3, 4, 100, 184, 0, 185, 172] :: []
set_option maxRecDepth 100000 in
theorem wb16m6_prog_13_method_41_code_c0 : wt_cs prog_13_method_41_code 0 wb16m6_prog_13_method_41_code_r0 := wt_cs_of (by decide +kernel)
theorem wp_md_isWordNumber_d0 : decode prog_13_method_41_code 0 = .ok (.iload_n 1, 1) := wt_op27 wb16m6_prog_13_method_41_code_c0 0 rfl rfl
theorem wp_md_isWordNumber_d1 : decode prog_13_method_41_code 1 = .ok (.iconst 0, 1) := wt_op3 wb16m6_prog_13_method_41_code_c0 1 rfl rfl
theorem wp_md_isWordNumber_d2 : decode prog_13_method_41_code 2 = .ok (.aload_n 0, 1) := wt_op42 wb16m6_prog_13_method_41_code_c0 2 rfl rfl
theorem wp_md_isWordNumber_d3 : decode prog_13_method_41_code 3 = .ok (.getfield 259, 3) := wt_op180 wb16m6_prog_13_method_41_code_c0 3 rfl rfl rfl
theorem wp_md_isWordNumber_d6 : decode prog_13_method_41_code 6 = .ok (.iconst 1, 1) := wt_op4 wb16m6_prog_13_method_41_code_c0 6 rfl rfl
theorem wp_md_isWordNumber_d7 : decode prog_13_method_41_code 7 = .ok (.isub, 1) := wt_op100 wb16m6_prog_13_method_41_code_c0 7 rfl rfl
theorem wp_md_isWordNumber_d8 : decode prog_13_method_41_code 8 = .ok (.invokestatic 185, 3) := wt_op184 wb16m6_prog_13_method_41_code_c0 8 rfl rfl rfl
theorem wp_md_isWordNumber_d11 : decode prog_13_method_41_code 11 = .ok (.ireturn, 1) := wt_op172 wb16m6_prog_13_method_41_code_c0 11 rfl rfl
noncomputable def wp_md_isWordNumber (n : Nat) (x1 : Int32) (σ : wt_St) : Option (Int32 × wt_St) :=
  (wp_md_in n x1 (0 : Int32) ((wt_gf σ 108 28) - (1 : Int32)) σ).bind fun q1 =>
  some (q1.1, q1.2)
set_option maxRecDepth 100000 in
set_option maxHeartbeats 4000000 in
theorem wp_md_isWordNumber_ok {l : Launch} {w : wt_E} {n : Nat} {x1 : Int32} (hD : ∀ i, 108 ≤ i → i < 321 → wt_dom w i) {σ : wt_St} {q : Int32 × wt_St} (h : wp_md_isWordNumber n x1 σ = some q) : wt_Ctr l w wt_y_md_isWordNumber prog_13_method_41_code 2 (some .boolean) 1 [.ref (wt_ad w 108), .int x1] σ (some q.1) q.2 := by
  refine wt_ctr wt_pl_md_isWordNumber rfl (Nat.le_of_ble_eq_true rfl) [some (.ref (wt_ad w 108)), some (.int x1)] rfl ?_
  intro X hXl hXw hE hR
  subst hXl
  subst hXw
  have hE : wt_Ok X prog_13_method_41_code 2 "WornTypeModel" 1 0 := hE
  unfold wp_md_isWordNumber at h
  refine wt_iload_n hE wp_md_isWordNumber_d0 rfl ?_
  refine wt_iconst hE (0 : Int32) wp_md_isWordNumber_d1 wt_ci_0 ?_
  refine wt_aload_n hE wp_md_isWordNumber_d2 rfl ?_
  refine wt_geti hE wt_lf_md_259 (hD 108 (by decide) (by decide)) wt_L108 rfl wp_md_isWordNumber_d3 ?_
  refine wt_iconst hE (1 : Int32) wp_md_isWordNumber_d6 wt_ci_1 ?_
  refine wt_isub hE wp_md_isWordNumber_d7 ?_
  obtain ⟨q1, hq1, h⟩ := wt_bi h
  refine wt_callSi hE [.int x1, .int (0 : Int32), .int ((wt_gf σ 108 28) - (1 : Int32))] wt_lm_md_185 wt_ya_md_in (wp_md_in_ok hq1) (by omega) rfl rfl (Nat.le_of_ble_eq_true rfl) (Nat.zero_le _) wp_md_isWordNumber_d8 (fun hbq1 => ?_)
  cases h
  exact wt_zret hE (hbq1 rfl _ rfl) hR wp_md_isWordNumber_d11
def wb16m6_prog_13_method_74_code_r0 : List (List Nat) := [3, 60, 27, 17, 1, 82, 162, 0, 21, 42, 180, 0, 50, 27, 42, 180, 0, 112, 27, 46, 79, 132, 1, 1, 167, 255, 234, 177] :: []
set_option maxRecDepth 100000 in
theorem wb16m6_prog_13_method_74_code_c0 : wt_cs prog_13_method_74_code 0 wb16m6_prog_13_method_74_code_r0 := wt_cs_of (by decide +kernel)
theorem wp_md_putsBack_d0 : decode prog_13_method_74_code 0 = .ok (.iconst 0, 1) := wt_op3 wb16m6_prog_13_method_74_code_c0 0 rfl rfl
theorem wp_md_putsBack_d1 : decode prog_13_method_74_code 1 = .ok (.istore_n 1, 1) := wt_op60 wb16m6_prog_13_method_74_code_c0 1 rfl rfl
theorem wp_md_putsBack_d2 : decode prog_13_method_74_code 2 = .ok (.iload_n 1, 1) := wt_op27 wb16m6_prog_13_method_74_code_c0 2 rfl rfl
theorem wp_md_putsBack_d3 : decode prog_13_method_74_code 3 = .ok (.sipush 338, 3) := wt_op17 wb16m6_prog_13_method_74_code_c0 3 rfl rfl rfl
theorem wp_md_putsBack_d6 : decode prog_13_method_74_code 6 = .ok (.if_icmp .ge 21, 3) := wt_op162 wb16m6_prog_13_method_74_code_c0 6 rfl rfl rfl
theorem wp_md_putsBack_d9 : decode prog_13_method_74_code 9 = .ok (.aload_n 0, 1) := wt_op42 wb16m6_prog_13_method_74_code_c0 9 rfl rfl
theorem wp_md_putsBack_d10 : decode prog_13_method_74_code 10 = .ok (.getfield 50, 3) := wt_op180 wb16m6_prog_13_method_74_code_c0 10 rfl rfl rfl
theorem wp_md_putsBack_d13 : decode prog_13_method_74_code 13 = .ok (.iload_n 1, 1) := wt_op27 wb16m6_prog_13_method_74_code_c0 13 rfl rfl
theorem wp_md_putsBack_d14 : decode prog_13_method_74_code 14 = .ok (.aload_n 0, 1) := wt_op42 wb16m6_prog_13_method_74_code_c0 14 rfl rfl
theorem wp_md_putsBack_d15 : decode prog_13_method_74_code 15 = .ok (.getfield 112, 3) := wt_op180 wb16m6_prog_13_method_74_code_c0 15 rfl rfl rfl
theorem wp_md_putsBack_d18 : decode prog_13_method_74_code 18 = .ok (.iload_n 1, 1) := wt_op27 wb16m6_prog_13_method_74_code_c0 18 rfl rfl
theorem wp_md_putsBack_d19 : decode prog_13_method_74_code 19 = .ok (.iaload, 1) := wt_op46 wb16m6_prog_13_method_74_code_c0 19 rfl rfl
theorem wp_md_putsBack_d20 : decode prog_13_method_74_code 20 = .ok (.iastore, 1) := wt_op79 wb16m6_prog_13_method_74_code_c0 20 rfl rfl
theorem wp_md_putsBack_d21 : decode prog_13_method_74_code 21 = .ok (.iinc 1 1, 3) := wt_op132 wb16m6_prog_13_method_74_code_c0 21 rfl rfl rfl
theorem wp_md_putsBack_d24 : decode prog_13_method_74_code 24 = .ok (.goto (-22), 3) := wt_op167 wb16m6_prog_13_method_74_code_c0 24 rfl rfl rfl
theorem wp_md_putsBack_d27 : decode prog_13_method_74_code 27 = .ok (.return_, 1) := wt_op177 wb16m6_prog_13_method_74_code_c0 27 rfl rfl
noncomputable def wp_md_putsBack_B2 (n : Nat) (K2 : Int32 × wt_St → Option (wt_St)) (s : Int32 × wt_St) : Option (wt_St) :=
  if (338 : Int32) ≤ s.1 then
    some s.2
  else
    if s.1 < 0 ∨ 338 ≤ Int32.toNatClampNeg s.1 then none else
    if s.1 < 0 ∨ 338 ≤ Int32.toNatClampNeg s.1 then none else
    K2 ((s.1 + (1 : Int32)), (wt_sa s.2 121 (Int32.toNatClampNeg s.1) (wt_ga s.2 286 (Int32.toNatClampNeg s.1))))
set_option maxRecDepth 100000 in
set_option maxHeartbeats 4000000 in
theorem wp_md_putsBack_B2_ok  {X : wt_X} {n : Nat} {res : wt_St} (hE : wt_Ok X prog_13_method_74_code 2 "WornTypeModel" 0 0) (hR : wt_Rt X none none res) (hD : ∀ i, 108 ≤ i → i < 321 → wt_dom (wt_xw X) i)  {K2 : Int32 × wt_St → Option (wt_St)} (hK2 : ∀ s : Int32 × wt_St, K2 s = some res → wt_V X 0 s.2 2 [some (.ref (wt_ad (wt_xw X) 108)), some (.int s.1)] []) {s : Int32 × wt_St} (h : wp_md_putsBack_B2 n K2 s = some res) : wt_V X 0 s.2 2 [some (.ref (wt_ad (wt_xw X) 108)), some (.int s.1)] [] := by
  unfold wp_md_putsBack_B2 at h
  refine wt_iload_n hE wp_md_putsBack_d2 rfl ?_
  refine wt_sipush hE (338 : Int32) wp_md_putsBack_d3 wt_cs_338 ?_
  refine wt_icmp_ge hE 27 wp_md_putsBack_d6 rfl (fun c1 => ?_) (fun c1 => ?_)
  · have h := wt_ip c1 h
    cases h
    exact wt_vret hE hR wp_md_putsBack_d27
  · have h := wt_in c1 h
    refine wt_aload_n hE wp_md_putsBack_d9 rfl ?_
    refine wt_getr hE (r := 121) wt_lf_md_50 (hD 108 (by decide) (by decide)) wt_L108 rfl wp_md_putsBack_d10 ?_
    refine wt_iload_n hE wp_md_putsBack_d13 rfl ?_
    refine wt_aload_n hE wp_md_putsBack_d14 rfl ?_
    refine wt_getr hE (r := 286) wt_lf_md_112 (hD 108 (by decide) (by decide)) wt_L108 rfl wp_md_putsBack_d15 ?_
    refine wt_iload_n hE wp_md_putsBack_d18 rfl ?_
    obtain ⟨g2, h⟩ := wt_gd h
    refine wt_iald hE (hD 286 (by decide) (by decide)) wt_L286 g2 wp_md_putsBack_d19 ?_
    obtain ⟨g3, h⟩ := wt_gd h
    refine wt_iast hE (hD 121 (by decide) (by decide)) wt_L121 g3 wp_md_putsBack_d20 ?_
    refine wt_iinc hE (s.1 + (1 : Int32)) [some (.ref (wt_ad (wt_xw X) 108)), some (.int (s.1 + (1 : Int32)))] wp_md_putsBack_d21 (by decide) rfl rfl rfl ?_
    refine wt_goto hE 2 wp_md_putsBack_d24 rfl ?_
    exact hK2 ((s.1 + (1 : Int32)), (wt_sa s.2 121 (Int32.toNatClampNeg s.1) (wt_ga s.2 286 (Int32.toNatClampNeg s.1)))) h
noncomputable def wp_md_putsBack (n : Nat) (σ : wt_St) : Option (wt_St) :=
  wt_it (wp_md_putsBack_B2 n) n ((0 : Int32), σ)
set_option maxRecDepth 100000 in
set_option maxHeartbeats 4000000 in
theorem wp_md_putsBack_ok {l : Launch} {w : wt_E} {n : Nat} (hD : ∀ i, 108 ≤ i → i < 321 → wt_dom w i) {σ : wt_St} {q : wt_St} (h : wp_md_putsBack n σ = some q) : wt_Ctr l w wt_y_md_putsBack prog_13_method_74_code 2 none 0 [.ref (wt_ad w 108)] σ none q := by
  refine wt_ctr wt_pl_md_putsBack rfl (Nat.le_of_ble_eq_true rfl) [some (.ref (wt_ad w 108)), none] rfl ?_
  intro X hXl hXw hE hR
  subst hXl
  subst hXw
  have hE : wt_Ok X prog_13_method_74_code 2 "WornTypeModel" 0 0 := hE
  unfold wp_md_putsBack at h
  refine wt_iconst hE (0 : Int32) wp_md_putsBack_d0 wt_ci_0 ?_
  refine wt_istore_n hE [some (.ref (wt_ad (wt_xw X) 108)), some (.int (0 : Int32))] wp_md_putsBack_d1 (by decide) rfl ?_
  exact wt_it_ind (fun z => wt_V X 0 z.2 2 [some (.ref (wt_ad (wt_xw X) 108)), some (.int z.1)] []) (fun K hK z h => wp_md_putsBack_B2_ok hE hR hD hK h) n ((0 : Int32), σ) h
def wb16m6_prog_13_method_86_code_r2 : List (List Nat) := [28, 172, 132, 2, 1, 167, 255, 225, 2, 172] :: []
def wb16m6_prog_13_method_86_code_r1 : List (List Nat) := [3, 61, 28, 16, 100, 163, 0, 31, 42, 28, 182, 1, 116, 87, 42, 27, 182, 1, 48, 62, 42, 182, 1, 110, 29, 154, 0, 5] :: wb16m6_prog_13_method_86_code_r2
def wb16m6_prog_13_method_86_code_r0 : List (List Nat) := [42, 3, 181, 0, 151, 42, 42, 27, 182, 1, 42, 154, 0, 7, 4, 167, 0, 4, 3, 4, 182, 0, 230, 153, 0, 5, 3, 172] :: wb16m6_prog_13_method_86_code_r1
set_option maxRecDepth 100000 in
theorem wb16m6_prog_13_method_86_code_c0 : wt_cs prog_13_method_86_code 0 wb16m6_prog_13_method_86_code_r0 := wt_cs_of (by decide +kernel)
theorem wb16m6_prog_13_method_86_code_c1 : wt_cs prog_13_method_86_code 28 wb16m6_prog_13_method_86_code_r1 := wt_cs_tl (m := 28) wb16m6_prog_13_method_86_code_c0 rfl rfl
theorem wb16m6_prog_13_method_86_code_c2 : wt_cs prog_13_method_86_code 56 wb16m6_prog_13_method_86_code_r2 := wt_cs_tl (m := 28) wb16m6_prog_13_method_86_code_c1 rfl rfl
theorem wp_md_ends_d0 : decode prog_13_method_86_code 0 = .ok (.aload_n 0, 1) := wt_op42 wb16m6_prog_13_method_86_code_c0 0 rfl rfl
theorem wp_md_ends_d1 : decode prog_13_method_86_code 1 = .ok (.iconst 0, 1) := wt_op3 wb16m6_prog_13_method_86_code_c0 1 rfl rfl
theorem wp_md_ends_d2 : decode prog_13_method_86_code 2 = .ok (.putfield 151, 3) := wt_op181 wb16m6_prog_13_method_86_code_c0 2 rfl rfl rfl
theorem wp_md_ends_d5 : decode prog_13_method_86_code 5 = .ok (.aload_n 0, 1) := wt_op42 wb16m6_prog_13_method_86_code_c0 5 rfl rfl
theorem wp_md_ends_d6 : decode prog_13_method_86_code 6 = .ok (.aload_n 0, 1) := wt_op42 wb16m6_prog_13_method_86_code_c0 6 rfl rfl
theorem wp_md_ends_d7 : decode prog_13_method_86_code 7 = .ok (.iload_n 1, 1) := wt_op27 wb16m6_prog_13_method_86_code_c0 7 rfl rfl
theorem wp_md_ends_d8 : decode prog_13_method_86_code 8 = .ok (.invokevirtual 298, 3) := wt_op182 wb16m6_prog_13_method_86_code_c0 8 rfl rfl rfl
theorem wp_md_ends_d11 : decode prog_13_method_86_code 11 = .ok (.ifCond .ne 7, 3) := wt_op154 wb16m6_prog_13_method_86_code_c0 11 rfl rfl rfl
theorem wp_md_ends_d14 : decode prog_13_method_86_code 14 = .ok (.iconst 1, 1) := wt_op4 wb16m6_prog_13_method_86_code_c0 14 rfl rfl
theorem wp_md_ends_d15 : decode prog_13_method_86_code 15 = .ok (.goto 4, 3) := wt_op167 wb16m6_prog_13_method_86_code_c0 15 rfl rfl rfl
theorem wp_md_ends_d18 : decode prog_13_method_86_code 18 = .ok (.iconst 0, 1) := wt_op3 wb16m6_prog_13_method_86_code_c0 18 rfl rfl
theorem wp_md_ends_d19 : decode prog_13_method_86_code 19 = .ok (.iconst 1, 1) := wt_op4 wb16m6_prog_13_method_86_code_c0 19 rfl rfl
theorem wp_md_ends_d20 : decode prog_13_method_86_code 20 = .ok (.invokevirtual 230, 3) := wt_op182 wb16m6_prog_13_method_86_code_c0 20 rfl rfl rfl
theorem wp_md_ends_d23 : decode prog_13_method_86_code 23 = .ok (.ifCond .eq 5, 3) := wt_op153 wb16m6_prog_13_method_86_code_c0 23 rfl rfl rfl
theorem wp_md_ends_d26 : decode prog_13_method_86_code 26 = .ok (.iconst 0, 1) := wt_op3 wb16m6_prog_13_method_86_code_c0 26 rfl rfl
theorem wp_md_ends_d27 : decode prog_13_method_86_code 27 = .ok (.ireturn, 1) := wt_op172 wb16m6_prog_13_method_86_code_c0 27 rfl rfl
theorem wp_md_ends_d28 : decode prog_13_method_86_code 28 = .ok (.iconst 0, 1) := wt_op3 wb16m6_prog_13_method_86_code_c1 0 rfl rfl
theorem wp_md_ends_d29 : decode prog_13_method_86_code 29 = .ok (.istore_n 2, 1) := wt_op61 wb16m6_prog_13_method_86_code_c1 1 rfl rfl
theorem wp_md_ends_d30 : decode prog_13_method_86_code 30 = .ok (.iload_n 2, 1) := wt_op28 wb16m6_prog_13_method_86_code_c1 2 rfl rfl
theorem wp_md_ends_d31 : decode prog_13_method_86_code 31 = .ok (.bipush 100, 2) := wt_op16 wb16m6_prog_13_method_86_code_c1 3 rfl rfl rfl
theorem wp_md_ends_d33 : decode prog_13_method_86_code 33 = .ok (.if_icmp .gt 31, 3) := wt_op163 wb16m6_prog_13_method_86_code_c1 5 rfl rfl rfl
theorem wp_md_ends_d36 : decode prog_13_method_86_code 36 = .ok (.aload_n 0, 1) := wt_op42 wb16m6_prog_13_method_86_code_c1 8 rfl rfl
theorem wp_md_ends_d37 : decode prog_13_method_86_code 37 = .ok (.iload_n 2, 1) := wt_op28 wb16m6_prog_13_method_86_code_c1 9 rfl rfl
theorem wp_md_ends_d38 : decode prog_13_method_86_code 38 = .ok (.invokevirtual 372, 3) := wt_op182 wb16m6_prog_13_method_86_code_c1 10 rfl rfl rfl
theorem wp_md_ends_d41 : decode prog_13_method_86_code 41 = .ok (.pop, 1) := wt_op87 wb16m6_prog_13_method_86_code_c1 13 rfl rfl
theorem wp_md_ends_d42 : decode prog_13_method_86_code 42 = .ok (.aload_n 0, 1) := wt_op42 wb16m6_prog_13_method_86_code_c1 14 rfl rfl
theorem wp_md_ends_d43 : decode prog_13_method_86_code 43 = .ok (.iload_n 1, 1) := wt_op27 wb16m6_prog_13_method_86_code_c1 15 rfl rfl
theorem wp_md_ends_d44 : decode prog_13_method_86_code 44 = .ok (.invokevirtual 304, 3) := wt_op182 wb16m6_prog_13_method_86_code_c1 16 rfl rfl rfl
theorem wp_md_ends_d47 : decode prog_13_method_86_code 47 = .ok (.istore_n 3, 1) := wt_op62 wb16m6_prog_13_method_86_code_c1 19 rfl rfl
theorem wp_md_ends_d48 : decode prog_13_method_86_code 48 = .ok (.aload_n 0, 1) := wt_op42 wb16m6_prog_13_method_86_code_c1 20 rfl rfl
theorem wp_md_ends_d49 : decode prog_13_method_86_code 49 = .ok (.invokevirtual 366, 3) := wt_op182 wb16m6_prog_13_method_86_code_c1 21 rfl rfl rfl
theorem wp_md_ends_d52 : decode prog_13_method_86_code 52 = .ok (.iload_n 3, 1) := wt_op29 wb16m6_prog_13_method_86_code_c1 24 rfl rfl
theorem wp_md_ends_d53 : decode prog_13_method_86_code 53 = .ok (.ifCond .ne 5, 3) := wt_op154 wb16m6_prog_13_method_86_code_c1 25 rfl rfl rfl
theorem wp_md_ends_d56 : decode prog_13_method_86_code 56 = .ok (.iload_n 2, 1) := wt_op28 wb16m6_prog_13_method_86_code_c2 0 rfl rfl
theorem wp_md_ends_d57 : decode prog_13_method_86_code 57 = .ok (.ireturn, 1) := wt_op172 wb16m6_prog_13_method_86_code_c2 1 rfl rfl
theorem wp_md_ends_d58 : decode prog_13_method_86_code 58 = .ok (.iinc 2 1, 3) := wt_op132 wb16m6_prog_13_method_86_code_c2 2 rfl rfl rfl
theorem wp_md_ends_d61 : decode prog_13_method_86_code 61 = .ok (.goto (-31), 3) := wt_op167 wb16m6_prog_13_method_86_code_c2 5 rfl rfl rfl
theorem wp_md_ends_d64 : decode prog_13_method_86_code 64 = .ok (.iconst (-1), 1) := wt_op2 wb16m6_prog_13_method_86_code_c2 8 rfl rfl
theorem wp_md_ends_d65 : decode prog_13_method_86_code 65 = .ok (.ireturn, 1) := wt_op172 wb16m6_prog_13_method_86_code_c2 9 rfl rfl
noncomputable def wp_md_ends_B30 (n : Nat) (x1 : Int32) (K30 : Int32 × wt_St → Option (Int32 × wt_St)) (s : Int32 × wt_St) : Option (Int32 × wt_St) :=
  if (100 : Int32) < s.1 then
    some ((-1 : Int32), s.2)
  else
    (wp_md_greedyAhead n s.1 s.2).bind fun q6 =>
    (wp_md_canWord n x1 q6.2).bind fun q7 =>
    (wp_md_putsBack n q7.2).bind fun q8 =>
    if q7.1 = 0 then
      some (s.1, q8)
    else
      K30 ((s.1 + (1 : Int32)), q8)
set_option maxRecDepth 100000 in
set_option maxHeartbeats 4000000 in
theorem wp_md_ends_B30_ok  {x1 : Int32} {X : wt_X} {n : Nat} {res : Int32 × wt_St} (hE : wt_Ok X prog_13_method_86_code 4 "WornTypeModel" 7 0) (hR : wt_Rt X (some .int) (some res.1) res.2) (hD : ∀ i, 108 ≤ i → i < 321 → wt_dom (wt_xw X) i)  {K30 : Int32 × wt_St → Option (Int32 × wt_St)} (hK30 : ∀ s : Int32 × wt_St, K30 s = some res → wt_V X 0 s.2 30 [some (.ref (wt_ad (wt_xw X) 108)), some (.int x1), some (.int s.1), none] []) {s : Int32 × wt_St} (h : wp_md_ends_B30 n x1 K30 s = some res) : wt_V X 0 s.2 30 [some (.ref (wt_ad (wt_xw X) 108)), some (.int x1), some (.int s.1), none] [] := by
  unfold wp_md_ends_B30 at h
  refine wt_iload_n hE wp_md_ends_d30 rfl ?_
  refine wt_bipush hE (100 : Int32) wp_md_ends_d31 wt_cb_100 ?_
  refine wt_icmp_gt hE 64 wp_md_ends_d33 rfl (fun c5 => ?_) (fun c5 => ?_)
  · have h := wt_ip c5 h
    refine wt_iconst hE (-1 : Int32) wp_md_ends_d64 wt_ci_m1 ?_
    cases h
    exact wt_iret hE hR wp_md_ends_d65
  · have h := wt_in c5 h
    refine wt_aload_n hE wp_md_ends_d36 rfl ?_
    refine wt_iload_n hE wp_md_ends_d37 rfl ?_
    obtain ⟨q6, hq6, h⟩ := wt_bi h
    refine wt_callVi hE [.int s.1] wt_lm_md_372 wt_ya_md_greedyAhead (wp_md_greedyAhead_ok hD hq6) (by omega) (hD 108 (by decide) (by decide)) wt_L108 rfl rfl rfl (Nat.le_of_ble_eq_true rfl) (Nat.zero_le _) wp_md_ends_d38 (fun hbq6 => ?_)
    refine wt_pop hE wp_md_ends_d41 rfl ?_
    refine wt_aload_n hE wp_md_ends_d42 rfl ?_
    refine wt_iload_n hE wp_md_ends_d43 rfl ?_
    obtain ⟨q7, hq7, h⟩ := wt_bi h
    refine wt_callVi hE [.int x1] wt_lm_md_304 wt_ya_md_canWord (wp_md_canWord_ok hD hq7) (by omega) (hD 108 (by decide) (by decide)) wt_L108 rfl rfl rfl (Nat.le_of_ble_eq_true rfl) (Nat.zero_le _) wp_md_ends_d44 (fun hbq7 => ?_)
    refine wt_istore_n hE [some (.ref (wt_ad (wt_xw X) 108)), some (.int x1), some (.int s.1), some (.int q7.1)] wp_md_ends_d47 (by decide) rfl ?_
    refine wt_aload_n hE wp_md_ends_d48 rfl ?_
    obtain ⟨q8, hq8, h⟩ := wt_bi h
    refine wt_callVv hE [] wt_lm_md_366 wt_ya_md_putsBack (wp_md_putsBack_ok hD hq8) (by omega) (hD 108 (by decide) (by decide)) wt_L108 rfl rfl rfl (Nat.le_of_ble_eq_true rfl) (Nat.zero_le _) wp_md_ends_d49 ?_
    refine wt_iload_n hE wp_md_ends_d52 rfl ?_
    refine wt_if_ne hE 58 wp_md_ends_d53 rfl (fun c9 => ?_) (fun c9 => ?_)
    · have h := wt_in c9 h
      refine wt_iinc hE (s.1 + (1 : Int32)) [some (.ref (wt_ad (wt_xw X) 108)), some (.int x1), some (.int (s.1 + (1 : Int32))), some (.int q7.1)] wp_md_ends_d58 (by decide) rfl rfl rfl ?_
      refine wt_goto hE 30 wp_md_ends_d61 rfl ?_
      refine wt_wk [true, true, true, false] rfl ?_
      exact hK30 ((s.1 + (1 : Int32)), q8) h
    · have h := wt_ip c9 h
      refine wt_iload_n hE wp_md_ends_d56 rfl ?_
      cases h
      exact wt_iret hE hR wp_md_ends_d57
noncomputable def wp_md_ends_B19 (n : Nat) (x1 : Int32) (y1 : Int32) (σ : wt_St) : Option (Int32 × wt_St) :=
  (wp_md_bad n y1 (1 : Int32) σ).bind fun q3 =>
  if q3.1 = 0 then
    wt_it (wp_md_ends_B30 n x1) n ((0 : Int32), q3.2)
  else
    some ((0 : Int32), q3.2)
set_option maxRecDepth 100000 in
set_option maxHeartbeats 4000000 in
theorem wp_md_ends_B19_ok  {x1 : Int32} {X : wt_X} {n : Nat} {res : Int32 × wt_St} (hE : wt_Ok X prog_13_method_86_code 4 "WornTypeModel" 7 0) (hR : wt_Rt X (some .int) (some res.1) res.2) (hD : ∀ i, 108 ≤ i → i < 321 → wt_dom (wt_xw X) i)  {σ : wt_St} {y1 : Int32} (h : wp_md_ends_B19 n x1 y1 σ = some res) : wt_V X 0 σ 19 [some (.ref (wt_ad (wt_xw X) 108)), some (.int x1), none, none] [.int y1, .ref (wt_ad (wt_xw X) 108)] := by
  unfold wp_md_ends_B19 at h
  refine wt_iconst hE (1 : Int32) wp_md_ends_d19 wt_ci_1 ?_
  obtain ⟨q3, hq3, h⟩ := wt_bi h
  refine wt_callVi hE [.int y1, .int (1 : Int32)] wt_lm_md_230 wt_ya_md_bad (wp_md_bad_ok hD hq3) (by omega) (hD 108 (by decide) (by decide)) wt_L108 rfl rfl rfl (Nat.le_of_ble_eq_true rfl) (Nat.zero_le _) wp_md_ends_d20 (fun hbq3 => ?_)
  refine wt_if_eq hE 28 wp_md_ends_d23 rfl (fun c4 => ?_) (fun c4 => ?_)
  · have h := wt_ip c4 h
    refine wt_iconst hE (0 : Int32) wp_md_ends_d28 wt_ci_0 ?_
    refine wt_istore_n hE [some (.ref (wt_ad (wt_xw X) 108)), some (.int x1), some (.int (0 : Int32)), none] wp_md_ends_d29 (by decide) rfl ?_
    exact wt_it_ind (fun z => wt_V X 0 z.2 30 [some (.ref (wt_ad (wt_xw X) 108)), some (.int x1), some (.int z.1), none] []) (fun K hK z h => wp_md_ends_B30_ok hE hR hD hK h) n ((0 : Int32), q3.2) h
  · have h := wt_in c4 h
    refine wt_iconst hE (0 : Int32) wp_md_ends_d26 wt_ci_0 ?_
    cases h
    exact wt_iret hE hR wp_md_ends_d27
noncomputable def wp_md_ends (n : Nat) (x1 : Int32) (σ : wt_St) : Option (Int32 × wt_St) :=
  (wp_md_isWordNumber n x1 (wt_sf σ 108 0 (0 : Int32))).bind fun q1 =>
  if q1.1 = 0 then
    wp_md_ends_B19 n x1 (1 : Int32) q1.2
  else
    wp_md_ends_B19 n x1 (0 : Int32) q1.2
set_option maxRecDepth 100000 in
set_option maxHeartbeats 4000000 in
theorem wp_md_ends_ok {l : Launch} {w : wt_E} {n : Nat} {x1 : Int32} (hD : ∀ i, 108 ≤ i → i < 321 → wt_dom w i) {σ : wt_St} {q : Int32 × wt_St} (h : wp_md_ends n x1 σ = some q) : wt_Ctr l w wt_y_md_ends prog_13_method_86_code 4 (some .int) 7 [.ref (wt_ad w 108), .int x1] σ (some q.1) q.2 := by
  refine wt_ctr wt_pl_md_ends rfl (Nat.le_of_ble_eq_true rfl) [some (.ref (wt_ad w 108)), some (.int x1), none, none] rfl ?_
  intro X hXl hXw hE hR
  subst hXl
  subst hXw
  have hE : wt_Ok X prog_13_method_86_code 4 "WornTypeModel" 7 0 := hE
  unfold wp_md_ends at h
  refine wt_aload_n hE wp_md_ends_d0 rfl ?_
  refine wt_iconst hE (0 : Int32) wp_md_ends_d1 wt_ci_0 ?_
  refine wt_puti hE wt_lf_md_151 (hD 108 (by decide) (by decide)) wt_L108 rfl (fun q hq => by cases hq; rfl) wp_md_ends_d2 ?_
  refine wt_aload_n hE wp_md_ends_d5 rfl ?_
  refine wt_aload_n hE wp_md_ends_d6 rfl ?_
  refine wt_iload_n hE wp_md_ends_d7 rfl ?_
  obtain ⟨q1, hq1, h⟩ := wt_bi h
  refine wt_callVi hE [.int x1] wt_lm_md_298 wt_ya_md_isWordNumber (wp_md_isWordNumber_ok hD hq1) (by omega) (hD 108 (by decide) (by decide)) wt_L108 rfl rfl rfl (Nat.le_of_ble_eq_true rfl) (Nat.zero_le _) wp_md_ends_d8 (fun hbq1 => ?_)
  refine wt_if_ne hE 18 wp_md_ends_d11 rfl (fun c2 => ?_) (fun c2 => ?_)
  · have h := wt_in c2 h
    refine wt_iconst hE (0 : Int32) wp_md_ends_d18 wt_ci_0 ?_
    exact wp_md_ends_B19_ok hE hR hD h
  · have h := wt_ip c2 h
    refine wt_iconst hE (1 : Int32) wp_md_ends_d14 wt_ci_1 ?_
    refine wt_goto hE 19 wp_md_ends_d15 rfl ?_
    exact wp_md_ends_B19_ok hE hR hD h
def wb16m6_prog_13_method_87_code_r10 : List (List Nat) := [167, 255, 17, 29, 172] :: []
def wb16m6_prog_13_method_87_code_r9 : List (List Nat) := [28, 163, 0, 6, 167, 0, 15, 21, 9, 61, 16, 100, 21, 4, 104, 21, 6, 96, 62, 132, 6, 1, 167, 255, 110, 132, 4, 1] :: wb16m6_prog_13_method_87_code_r10
def wb16m6_prog_13_method_87_code_r8 : List (List Nat) := [42, 180, 0, 50, 21, 5, 3, 79, 42, 21, 6, 21, 7, 182, 1, 125, 54, 9, 42, 180, 0, 50, 21, 5, 21, 8, 79, 21, 9] :: wb16m6_prog_13_method_87_code_r9
def wb16m6_prog_13_method_87_code_r7 : List (List Nat) := [21, 8, 184, 0, 227, 46, 167, 0, 5, 21, 7, 54, 7, 132, 8, 1, 167, 255, 205, 42, 180, 0, 50, 21, 5, 46, 54, 8] :: wb16m6_prog_13_method_87_code_r8
def wb16m6_prog_13_method_87_code_r6 : List (List Nat) := [21, 6, 46, 162, 0, 45, 42, 180, 0, 56, 21, 6, 21, 8, 184, 0, 227, 46, 21, 7, 164, 0, 18, 42, 180, 0, 56, 21, 6] :: wb16m6_prog_13_method_87_code_r7
def wb16m6_prog_13_method_87_code_r5 : List (List Nat) := [159, 0, 139, 42, 180, 0, 26, 21, 6, 46, 154, 0, 6, 167, 0, 120, 3, 54, 7, 3, 54, 8, 21, 8, 42, 180, 0, 26] :: wb16m6_prog_13_method_87_code_r6
def wb16m6_prog_13_method_87_code_r4 : List (List Nat) := [21, 4, 21, 6, 184, 0, 227, 54, 5, 132, 6, 1, 167, 255, 188, 3, 54, 6, 21, 6, 16, 26, 162, 0, 145, 21, 5, 2] :: wb16m6_prog_13_method_87_code_r5
def wb16m6_prog_13_method_87_code_r3 : List (List Nat) := [21, 5, 2, 159, 0, 25, 42, 180, 0, 50, 21, 4, 21, 6, 184, 0, 227, 46, 42, 180, 0, 50, 21, 5, 46, 162, 0, 12] :: wb16m6_prog_13_method_87_code_r4
def wb16m6_prog_13_method_87_code_r2 : List (List Nat) := [21, 6, 42, 180, 0, 20, 21, 4, 46, 162, 0, 62, 42, 180, 0, 59, 21, 4, 21, 6, 184, 0, 227, 46, 2, 160, 0, 40] :: wb16m6_prog_13_method_87_code_r3
def wb16m6_prog_13_method_87_code_r1 : List (List Nat) := [42, 27, 182, 1, 54, 42, 182, 1, 39, 61, 2, 62, 3, 54, 4, 21, 4, 16, 26, 162, 0, 238, 2, 54, 5, 3, 54, 6] :: wb16m6_prog_13_method_87_code_r2
def wb16m6_prog_13_method_87_code_r0 : List (List Nat) := [42, 3, 181, 0, 151, 42, 42, 27, 182, 1, 51, 154, 0, 7, 4, 167, 0, 4, 3, 4, 182, 0, 230, 153, 0, 5, 3, 172] :: wb16m6_prog_13_method_87_code_r1
set_option maxRecDepth 100000 in
theorem wb16m6_prog_13_method_87_code_c0 : wt_cs prog_13_method_87_code 0 wb16m6_prog_13_method_87_code_r0 := wt_cs_of (by decide +kernel)
theorem wb16m6_prog_13_method_87_code_c1 : wt_cs prog_13_method_87_code 28 wb16m6_prog_13_method_87_code_r1 := wt_cs_tl (m := 28) wb16m6_prog_13_method_87_code_c0 rfl rfl
theorem wb16m6_prog_13_method_87_code_c2 : wt_cs prog_13_method_87_code 56 wb16m6_prog_13_method_87_code_r2 := wt_cs_tl (m := 28) wb16m6_prog_13_method_87_code_c1 rfl rfl
theorem wb16m6_prog_13_method_87_code_c3 : wt_cs prog_13_method_87_code 84 wb16m6_prog_13_method_87_code_r3 := wt_cs_tl (m := 28) wb16m6_prog_13_method_87_code_c2 rfl rfl
theorem wb16m6_prog_13_method_87_code_c4 : wt_cs prog_13_method_87_code 112 wb16m6_prog_13_method_87_code_r4 := wt_cs_tl (m := 28) wb16m6_prog_13_method_87_code_c3 rfl rfl
theorem wb16m6_prog_13_method_87_code_c5 : wt_cs prog_13_method_87_code 140 wb16m6_prog_13_method_87_code_r5 := wt_cs_tl (m := 28) wb16m6_prog_13_method_87_code_c4 rfl rfl
theorem wb16m6_prog_13_method_87_code_c6 : wt_cs prog_13_method_87_code 168 wb16m6_prog_13_method_87_code_r6 := wt_cs_tl (m := 28) wb16m6_prog_13_method_87_code_c5 rfl rfl
theorem wb16m6_prog_13_method_87_code_c7 : wt_cs prog_13_method_87_code 197 wb16m6_prog_13_method_87_code_r7 := wt_cs_tl (m := 29) wb16m6_prog_13_method_87_code_c6 rfl rfl
theorem wb16m6_prog_13_method_87_code_c8 : wt_cs prog_13_method_87_code 225 wb16m6_prog_13_method_87_code_r8 := wt_cs_tl (m := 28) wb16m6_prog_13_method_87_code_c7 rfl rfl
theorem wb16m6_prog_13_method_87_code_c9 : wt_cs prog_13_method_87_code 254 wb16m6_prog_13_method_87_code_r9 := wt_cs_tl (m := 29) wb16m6_prog_13_method_87_code_c8 rfl rfl
theorem wb16m6_prog_13_method_87_code_c10 : wt_cs prog_13_method_87_code 282 wb16m6_prog_13_method_87_code_r10 := wt_cs_tl (m := 28) wb16m6_prog_13_method_87_code_c9 rfl rfl
theorem wp_md_exchange_d0 : decode prog_13_method_87_code 0 = .ok (.aload_n 0, 1) := wt_op42 wb16m6_prog_13_method_87_code_c0 0 rfl rfl
theorem wp_md_exchange_d1 : decode prog_13_method_87_code 1 = .ok (.iconst 0, 1) := wt_op3 wb16m6_prog_13_method_87_code_c0 1 rfl rfl
theorem wp_md_exchange_d2 : decode prog_13_method_87_code 2 = .ok (.putfield 151, 3) := wt_op181 wb16m6_prog_13_method_87_code_c0 2 rfl rfl rfl
theorem wp_md_exchange_d5 : decode prog_13_method_87_code 5 = .ok (.aload_n 0, 1) := wt_op42 wb16m6_prog_13_method_87_code_c0 5 rfl rfl
theorem wp_md_exchange_d6 : decode prog_13_method_87_code 6 = .ok (.aload_n 0, 1) := wt_op42 wb16m6_prog_13_method_87_code_c0 6 rfl rfl
theorem wp_md_exchange_d7 : decode prog_13_method_87_code 7 = .ok (.iload_n 1, 1) := wt_op27 wb16m6_prog_13_method_87_code_c0 7 rfl rfl
theorem wp_md_exchange_d8 : decode prog_13_method_87_code 8 = .ok (.invokevirtual 307, 3) := wt_op182 wb16m6_prog_13_method_87_code_c0 8 rfl rfl rfl
theorem wp_md_exchange_d11 : decode prog_13_method_87_code 11 = .ok (.ifCond .ne 7, 3) := wt_op154 wb16m6_prog_13_method_87_code_c0 11 rfl rfl rfl
theorem wp_md_exchange_d14 : decode prog_13_method_87_code 14 = .ok (.iconst 1, 1) := wt_op4 wb16m6_prog_13_method_87_code_c0 14 rfl rfl
theorem wp_md_exchange_d15 : decode prog_13_method_87_code 15 = .ok (.goto 4, 3) := wt_op167 wb16m6_prog_13_method_87_code_c0 15 rfl rfl rfl
theorem wp_md_exchange_d18 : decode prog_13_method_87_code 18 = .ok (.iconst 0, 1) := wt_op3 wb16m6_prog_13_method_87_code_c0 18 rfl rfl
theorem wp_md_exchange_d19 : decode prog_13_method_87_code 19 = .ok (.iconst 1, 1) := wt_op4 wb16m6_prog_13_method_87_code_c0 19 rfl rfl
theorem wp_md_exchange_d20 : decode prog_13_method_87_code 20 = .ok (.invokevirtual 230, 3) := wt_op182 wb16m6_prog_13_method_87_code_c0 20 rfl rfl rfl
theorem wp_md_exchange_d23 : decode prog_13_method_87_code 23 = .ok (.ifCond .eq 5, 3) := wt_op153 wb16m6_prog_13_method_87_code_c0 23 rfl rfl rfl
theorem wp_md_exchange_d26 : decode prog_13_method_87_code 26 = .ok (.iconst 0, 1) := wt_op3 wb16m6_prog_13_method_87_code_c0 26 rfl rfl
theorem wp_md_exchange_d27 : decode prog_13_method_87_code 27 = .ok (.ireturn, 1) := wt_op172 wb16m6_prog_13_method_87_code_c0 27 rfl rfl
theorem wp_md_exchange_d28 : decode prog_13_method_87_code 28 = .ok (.aload_n 0, 1) := wt_op42 wb16m6_prog_13_method_87_code_c1 0 rfl rfl
theorem wp_md_exchange_d29 : decode prog_13_method_87_code 29 = .ok (.iload_n 1, 1) := wt_op27 wb16m6_prog_13_method_87_code_c1 1 rfl rfl
theorem wp_md_exchange_d30 : decode prog_13_method_87_code 30 = .ok (.invokevirtual 310, 3) := wt_op182 wb16m6_prog_13_method_87_code_c1 2 rfl rfl rfl
theorem wp_md_exchange_d33 : decode prog_13_method_87_code 33 = .ok (.aload_n 0, 1) := wt_op42 wb16m6_prog_13_method_87_code_c1 5 rfl rfl
theorem wp_md_exchange_d34 : decode prog_13_method_87_code 34 = .ok (.invokevirtual 295, 3) := wt_op182 wb16m6_prog_13_method_87_code_c1 6 rfl rfl rfl
theorem wp_md_exchange_d37 : decode prog_13_method_87_code 37 = .ok (.istore_n 2, 1) := wt_op61 wb16m6_prog_13_method_87_code_c1 9 rfl rfl
theorem wp_md_exchange_d38 : decode prog_13_method_87_code 38 = .ok (.iconst (-1), 1) := wt_op2 wb16m6_prog_13_method_87_code_c1 10 rfl rfl
theorem wp_md_exchange_d39 : decode prog_13_method_87_code 39 = .ok (.istore_n 3, 1) := wt_op62 wb16m6_prog_13_method_87_code_c1 11 rfl rfl
theorem wp_md_exchange_d40 : decode prog_13_method_87_code 40 = .ok (.iconst 0, 1) := wt_op3 wb16m6_prog_13_method_87_code_c1 12 rfl rfl
theorem wp_md_exchange_d41 : decode prog_13_method_87_code 41 = .ok (.istore 4, 2) := wt_op54 wb16m6_prog_13_method_87_code_c1 13 rfl rfl
theorem wp_md_exchange_d43 : decode prog_13_method_87_code 43 = .ok (.iload 4, 2) := wt_op21 wb16m6_prog_13_method_87_code_c1 15 rfl rfl
theorem wp_md_exchange_d45 : decode prog_13_method_87_code 45 = .ok (.bipush 26, 2) := wt_op16 wb16m6_prog_13_method_87_code_c1 17 rfl rfl rfl
theorem wp_md_exchange_d47 : decode prog_13_method_87_code 47 = .ok (.if_icmp .ge 238, 3) := wt_op162 wb16m6_prog_13_method_87_code_c1 19 rfl rfl rfl
theorem wp_md_exchange_d50 : decode prog_13_method_87_code 50 = .ok (.iconst (-1), 1) := wt_op2 wb16m6_prog_13_method_87_code_c1 22 rfl rfl
theorem wp_md_exchange_d51 : decode prog_13_method_87_code 51 = .ok (.istore 5, 2) := wt_op54 wb16m6_prog_13_method_87_code_c1 23 rfl rfl
theorem wp_md_exchange_d53 : decode prog_13_method_87_code 53 = .ok (.iconst 0, 1) := wt_op3 wb16m6_prog_13_method_87_code_c1 25 rfl rfl
theorem wp_md_exchange_d54 : decode prog_13_method_87_code 54 = .ok (.istore 6, 2) := wt_op54 wb16m6_prog_13_method_87_code_c1 26 rfl rfl
theorem wp_md_exchange_d56 : decode prog_13_method_87_code 56 = .ok (.iload 6, 2) := wt_op21 wb16m6_prog_13_method_87_code_c2 0 rfl rfl
theorem wp_md_exchange_d58 : decode prog_13_method_87_code 58 = .ok (.aload_n 0, 1) := wt_op42 wb16m6_prog_13_method_87_code_c2 2 rfl rfl
theorem wp_md_exchange_d59 : decode prog_13_method_87_code 59 = .ok (.getfield 20, 3) := wt_op180 wb16m6_prog_13_method_87_code_c2 3 rfl rfl rfl
theorem wp_md_exchange_d62 : decode prog_13_method_87_code 62 = .ok (.iload 4, 2) := wt_op21 wb16m6_prog_13_method_87_code_c2 6 rfl rfl
theorem wp_md_exchange_d64 : decode prog_13_method_87_code 64 = .ok (.iaload, 1) := wt_op46 wb16m6_prog_13_method_87_code_c2 8 rfl rfl
theorem wp_md_exchange_d65 : decode prog_13_method_87_code 65 = .ok (.if_icmp .ge 62, 3) := wt_op162 wb16m6_prog_13_method_87_code_c2 9 rfl rfl rfl
theorem wp_md_exchange_d68 : decode prog_13_method_87_code 68 = .ok (.aload_n 0, 1) := wt_op42 wb16m6_prog_13_method_87_code_c2 12 rfl rfl
theorem wp_md_exchange_d69 : decode prog_13_method_87_code 69 = .ok (.getfield 59, 3) := wt_op180 wb16m6_prog_13_method_87_code_c2 13 rfl rfl rfl
theorem wp_md_exchange_d72 : decode prog_13_method_87_code 72 = .ok (.iload 4, 2) := wt_op21 wb16m6_prog_13_method_87_code_c2 16 rfl rfl
theorem wp_md_exchange_d74 : decode prog_13_method_87_code 74 = .ok (.iload 6, 2) := wt_op21 wb16m6_prog_13_method_87_code_c2 18 rfl rfl
theorem wp_md_exchange_d76 : decode prog_13_method_87_code 76 = .ok (.invokestatic 227, 3) := wt_op184 wb16m6_prog_13_method_87_code_c2 20 rfl rfl rfl
theorem wp_md_exchange_d79 : decode prog_13_method_87_code 79 = .ok (.iaload, 1) := wt_op46 wb16m6_prog_13_method_87_code_c2 23 rfl rfl
theorem wp_md_exchange_d80 : decode prog_13_method_87_code 80 = .ok (.iconst (-1), 1) := wt_op2 wb16m6_prog_13_method_87_code_c2 24 rfl rfl
theorem wp_md_exchange_d81 : decode prog_13_method_87_code 81 = .ok (.if_icmp .ne 40, 3) := wt_op160 wb16m6_prog_13_method_87_code_c2 25 rfl rfl rfl
theorem wp_md_exchange_d84 : decode prog_13_method_87_code 84 = .ok (.iload 5, 2) := wt_op21 wb16m6_prog_13_method_87_code_c3 0 rfl rfl
theorem wp_md_exchange_d86 : decode prog_13_method_87_code 86 = .ok (.iconst (-1), 1) := wt_op2 wb16m6_prog_13_method_87_code_c3 2 rfl rfl
theorem wp_md_exchange_d87 : decode prog_13_method_87_code 87 = .ok (.if_icmp .eq 25, 3) := wt_op159 wb16m6_prog_13_method_87_code_c3 3 rfl rfl rfl
theorem wp_md_exchange_d90 : decode prog_13_method_87_code 90 = .ok (.aload_n 0, 1) := wt_op42 wb16m6_prog_13_method_87_code_c3 6 rfl rfl
theorem wp_md_exchange_d91 : decode prog_13_method_87_code 91 = .ok (.getfield 50, 3) := wt_op180 wb16m6_prog_13_method_87_code_c3 7 rfl rfl rfl
theorem wp_md_exchange_d94 : decode prog_13_method_87_code 94 = .ok (.iload 4, 2) := wt_op21 wb16m6_prog_13_method_87_code_c3 10 rfl rfl
theorem wp_md_exchange_d96 : decode prog_13_method_87_code 96 = .ok (.iload 6, 2) := wt_op21 wb16m6_prog_13_method_87_code_c3 12 rfl rfl
theorem wp_md_exchange_d98 : decode prog_13_method_87_code 98 = .ok (.invokestatic 227, 3) := wt_op184 wb16m6_prog_13_method_87_code_c3 14 rfl rfl rfl
theorem wp_md_exchange_d101 : decode prog_13_method_87_code 101 = .ok (.iaload, 1) := wt_op46 wb16m6_prog_13_method_87_code_c3 17 rfl rfl
theorem wp_md_exchange_d102 : decode prog_13_method_87_code 102 = .ok (.aload_n 0, 1) := wt_op42 wb16m6_prog_13_method_87_code_c3 18 rfl rfl
theorem wp_md_exchange_d103 : decode prog_13_method_87_code 103 = .ok (.getfield 50, 3) := wt_op180 wb16m6_prog_13_method_87_code_c3 19 rfl rfl rfl
theorem wp_md_exchange_d106 : decode prog_13_method_87_code 106 = .ok (.iload 5, 2) := wt_op21 wb16m6_prog_13_method_87_code_c3 22 rfl rfl
theorem wp_md_exchange_d108 : decode prog_13_method_87_code 108 = .ok (.iaload, 1) := wt_op46 wb16m6_prog_13_method_87_code_c3 24 rfl rfl
theorem wp_md_exchange_d109 : decode prog_13_method_87_code 109 = .ok (.if_icmp .ge 12, 3) := wt_op162 wb16m6_prog_13_method_87_code_c3 25 rfl rfl rfl
theorem wp_md_exchange_d112 : decode prog_13_method_87_code 112 = .ok (.iload 4, 2) := wt_op21 wb16m6_prog_13_method_87_code_c4 0 rfl rfl
theorem wp_md_exchange_d114 : decode prog_13_method_87_code 114 = .ok (.iload 6, 2) := wt_op21 wb16m6_prog_13_method_87_code_c4 2 rfl rfl
theorem wp_md_exchange_d116 : decode prog_13_method_87_code 116 = .ok (.invokestatic 227, 3) := wt_op184 wb16m6_prog_13_method_87_code_c4 4 rfl rfl rfl
theorem wp_md_exchange_d119 : decode prog_13_method_87_code 119 = .ok (.istore 5, 2) := wt_op54 wb16m6_prog_13_method_87_code_c4 7 rfl rfl
theorem wp_md_exchange_d121 : decode prog_13_method_87_code 121 = .ok (.iinc 6 1, 3) := wt_op132 wb16m6_prog_13_method_87_code_c4 9 rfl rfl rfl
theorem wp_md_exchange_d124 : decode prog_13_method_87_code 124 = .ok (.goto (-68), 3) := wt_op167 wb16m6_prog_13_method_87_code_c4 12 rfl rfl rfl
theorem wp_md_exchange_d127 : decode prog_13_method_87_code 127 = .ok (.iconst 0, 1) := wt_op3 wb16m6_prog_13_method_87_code_c4 15 rfl rfl
theorem wp_md_exchange_d128 : decode prog_13_method_87_code 128 = .ok (.istore 6, 2) := wt_op54 wb16m6_prog_13_method_87_code_c4 16 rfl rfl
theorem wp_md_exchange_d130 : decode prog_13_method_87_code 130 = .ok (.iload 6, 2) := wt_op21 wb16m6_prog_13_method_87_code_c4 18 rfl rfl
theorem wp_md_exchange_d132 : decode prog_13_method_87_code 132 = .ok (.bipush 26, 2) := wt_op16 wb16m6_prog_13_method_87_code_c4 20 rfl rfl rfl
theorem wp_md_exchange_d134 : decode prog_13_method_87_code 134 = .ok (.if_icmp .ge 145, 3) := wt_op162 wb16m6_prog_13_method_87_code_c4 22 rfl rfl rfl
theorem wp_md_exchange_d137 : decode prog_13_method_87_code 137 = .ok (.iload 5, 2) := wt_op21 wb16m6_prog_13_method_87_code_c4 25 rfl rfl
theorem wp_md_exchange_d139 : decode prog_13_method_87_code 139 = .ok (.iconst (-1), 1) := wt_op2 wb16m6_prog_13_method_87_code_c4 27 rfl rfl
theorem wp_md_exchange_d140 : decode prog_13_method_87_code 140 = .ok (.if_icmp .eq 139, 3) := wt_op159 wb16m6_prog_13_method_87_code_c5 0 rfl rfl rfl
theorem wp_md_exchange_d143 : decode prog_13_method_87_code 143 = .ok (.aload_n 0, 1) := wt_op42 wb16m6_prog_13_method_87_code_c5 3 rfl rfl
theorem wp_md_exchange_d144 : decode prog_13_method_87_code 144 = .ok (.getfield 26, 3) := wt_op180 wb16m6_prog_13_method_87_code_c5 4 rfl rfl rfl
theorem wp_md_exchange_d147 : decode prog_13_method_87_code 147 = .ok (.iload 6, 2) := wt_op21 wb16m6_prog_13_method_87_code_c5 7 rfl rfl
theorem wp_md_exchange_d149 : decode prog_13_method_87_code 149 = .ok (.iaload, 1) := wt_op46 wb16m6_prog_13_method_87_code_c5 9 rfl rfl
theorem wp_md_exchange_d150 : decode prog_13_method_87_code 150 = .ok (.ifCond .ne 6, 3) := wt_op154 wb16m6_prog_13_method_87_code_c5 10 rfl rfl rfl
theorem wp_md_exchange_d153 : decode prog_13_method_87_code 153 = .ok (.goto 120, 3) := wt_op167 wb16m6_prog_13_method_87_code_c5 13 rfl rfl rfl
theorem wp_md_exchange_d156 : decode prog_13_method_87_code 156 = .ok (.iconst 0, 1) := wt_op3 wb16m6_prog_13_method_87_code_c5 16 rfl rfl
theorem wp_md_exchange_d157 : decode prog_13_method_87_code 157 = .ok (.istore 7, 2) := wt_op54 wb16m6_prog_13_method_87_code_c5 17 rfl rfl
theorem wp_md_exchange_d159 : decode prog_13_method_87_code 159 = .ok (.iconst 0, 1) := wt_op3 wb16m6_prog_13_method_87_code_c5 19 rfl rfl
theorem wp_md_exchange_d160 : decode prog_13_method_87_code 160 = .ok (.istore 8, 2) := wt_op54 wb16m6_prog_13_method_87_code_c5 20 rfl rfl
theorem wp_md_exchange_d162 : decode prog_13_method_87_code 162 = .ok (.iload 8, 2) := wt_op21 wb16m6_prog_13_method_87_code_c5 22 rfl rfl
theorem wp_md_exchange_d164 : decode prog_13_method_87_code 164 = .ok (.aload_n 0, 1) := wt_op42 wb16m6_prog_13_method_87_code_c5 24 rfl rfl
theorem wp_md_exchange_d165 : decode prog_13_method_87_code 165 = .ok (.getfield 26, 3) := wt_op180 wb16m6_prog_13_method_87_code_c5 25 rfl rfl rfl
theorem wp_md_exchange_d168 : decode prog_13_method_87_code 168 = .ok (.iload 6, 2) := wt_op21 wb16m6_prog_13_method_87_code_c6 0 rfl rfl
theorem wp_md_exchange_d170 : decode prog_13_method_87_code 170 = .ok (.iaload, 1) := wt_op46 wb16m6_prog_13_method_87_code_c6 2 rfl rfl
theorem wp_md_exchange_d171 : decode prog_13_method_87_code 171 = .ok (.if_icmp .ge 45, 3) := wt_op162 wb16m6_prog_13_method_87_code_c6 3 rfl rfl rfl
theorem wp_md_exchange_d174 : decode prog_13_method_87_code 174 = .ok (.aload_n 0, 1) := wt_op42 wb16m6_prog_13_method_87_code_c6 6 rfl rfl
theorem wp_md_exchange_d175 : decode prog_13_method_87_code 175 = .ok (.getfield 56, 3) := wt_op180 wb16m6_prog_13_method_87_code_c6 7 rfl rfl rfl
theorem wp_md_exchange_d178 : decode prog_13_method_87_code 178 = .ok (.iload 6, 2) := wt_op21 wb16m6_prog_13_method_87_code_c6 10 rfl rfl
theorem wp_md_exchange_d180 : decode prog_13_method_87_code 180 = .ok (.iload 8, 2) := wt_op21 wb16m6_prog_13_method_87_code_c6 12 rfl rfl
theorem wp_md_exchange_d182 : decode prog_13_method_87_code 182 = .ok (.invokestatic 227, 3) := wt_op184 wb16m6_prog_13_method_87_code_c6 14 rfl rfl rfl
theorem wp_md_exchange_d185 : decode prog_13_method_87_code 185 = .ok (.iaload, 1) := wt_op46 wb16m6_prog_13_method_87_code_c6 17 rfl rfl
theorem wp_md_exchange_d186 : decode prog_13_method_87_code 186 = .ok (.iload 7, 2) := wt_op21 wb16m6_prog_13_method_87_code_c6 18 rfl rfl
theorem wp_md_exchange_d188 : decode prog_13_method_87_code 188 = .ok (.if_icmp .le 18, 3) := wt_op164 wb16m6_prog_13_method_87_code_c6 20 rfl rfl rfl
theorem wp_md_exchange_d191 : decode prog_13_method_87_code 191 = .ok (.aload_n 0, 1) := wt_op42 wb16m6_prog_13_method_87_code_c6 23 rfl rfl
theorem wp_md_exchange_d192 : decode prog_13_method_87_code 192 = .ok (.getfield 56, 3) := wt_op180 wb16m6_prog_13_method_87_code_c6 24 rfl rfl rfl
theorem wp_md_exchange_d195 : decode prog_13_method_87_code 195 = .ok (.iload 6, 2) := wt_op21 wb16m6_prog_13_method_87_code_c6 27 rfl rfl
theorem wp_md_exchange_d197 : decode prog_13_method_87_code 197 = .ok (.iload 8, 2) := wt_op21 wb16m6_prog_13_method_87_code_c7 0 rfl rfl
theorem wp_md_exchange_d199 : decode prog_13_method_87_code 199 = .ok (.invokestatic 227, 3) := wt_op184 wb16m6_prog_13_method_87_code_c7 2 rfl rfl rfl
theorem wp_md_exchange_d202 : decode prog_13_method_87_code 202 = .ok (.iaload, 1) := wt_op46 wb16m6_prog_13_method_87_code_c7 5 rfl rfl
theorem wp_md_exchange_d203 : decode prog_13_method_87_code 203 = .ok (.goto 5, 3) := wt_op167 wb16m6_prog_13_method_87_code_c7 6 rfl rfl rfl
theorem wp_md_exchange_d206 : decode prog_13_method_87_code 206 = .ok (.iload 7, 2) := wt_op21 wb16m6_prog_13_method_87_code_c7 9 rfl rfl
theorem wp_md_exchange_d208 : decode prog_13_method_87_code 208 = .ok (.istore 7, 2) := wt_op54 wb16m6_prog_13_method_87_code_c7 11 rfl rfl
theorem wp_md_exchange_d210 : decode prog_13_method_87_code 210 = .ok (.iinc 8 1, 3) := wt_op132 wb16m6_prog_13_method_87_code_c7 13 rfl rfl rfl
theorem wp_md_exchange_d213 : decode prog_13_method_87_code 213 = .ok (.goto (-51), 3) := wt_op167 wb16m6_prog_13_method_87_code_c7 16 rfl rfl rfl
theorem wp_md_exchange_d216 : decode prog_13_method_87_code 216 = .ok (.aload_n 0, 1) := wt_op42 wb16m6_prog_13_method_87_code_c7 19 rfl rfl
theorem wp_md_exchange_d217 : decode prog_13_method_87_code 217 = .ok (.getfield 50, 3) := wt_op180 wb16m6_prog_13_method_87_code_c7 20 rfl rfl rfl
theorem wp_md_exchange_d220 : decode prog_13_method_87_code 220 = .ok (.iload 5, 2) := wt_op21 wb16m6_prog_13_method_87_code_c7 23 rfl rfl
theorem wp_md_exchange_d222 : decode prog_13_method_87_code 222 = .ok (.iaload, 1) := wt_op46 wb16m6_prog_13_method_87_code_c7 25 rfl rfl
theorem wp_md_exchange_d223 : decode prog_13_method_87_code 223 = .ok (.istore 8, 2) := wt_op54 wb16m6_prog_13_method_87_code_c7 26 rfl rfl
theorem wp_md_exchange_d225 : decode prog_13_method_87_code 225 = .ok (.aload_n 0, 1) := wt_op42 wb16m6_prog_13_method_87_code_c8 0 rfl rfl
theorem wp_md_exchange_d226 : decode prog_13_method_87_code 226 = .ok (.getfield 50, 3) := wt_op180 wb16m6_prog_13_method_87_code_c8 1 rfl rfl rfl
theorem wp_md_exchange_d229 : decode prog_13_method_87_code 229 = .ok (.iload 5, 2) := wt_op21 wb16m6_prog_13_method_87_code_c8 4 rfl rfl
theorem wp_md_exchange_d231 : decode prog_13_method_87_code 231 = .ok (.iconst 0, 1) := wt_op3 wb16m6_prog_13_method_87_code_c8 6 rfl rfl
theorem wp_md_exchange_d232 : decode prog_13_method_87_code 232 = .ok (.iastore, 1) := wt_op79 wb16m6_prog_13_method_87_code_c8 7 rfl rfl
theorem wp_md_exchange_d233 : decode prog_13_method_87_code 233 = .ok (.aload_n 0, 1) := wt_op42 wb16m6_prog_13_method_87_code_c8 8 rfl rfl
theorem wp_md_exchange_d234 : decode prog_13_method_87_code 234 = .ok (.iload 6, 2) := wt_op21 wb16m6_prog_13_method_87_code_c8 9 rfl rfl
theorem wp_md_exchange_d236 : decode prog_13_method_87_code 236 = .ok (.iload 7, 2) := wt_op21 wb16m6_prog_13_method_87_code_c8 11 rfl rfl
theorem wp_md_exchange_d238 : decode prog_13_method_87_code 238 = .ok (.invokevirtual 381, 3) := wt_op182 wb16m6_prog_13_method_87_code_c8 13 rfl rfl rfl
theorem wp_md_exchange_d241 : decode prog_13_method_87_code 241 = .ok (.istore 9, 2) := wt_op54 wb16m6_prog_13_method_87_code_c8 16 rfl rfl
theorem wp_md_exchange_d243 : decode prog_13_method_87_code 243 = .ok (.aload_n 0, 1) := wt_op42 wb16m6_prog_13_method_87_code_c8 18 rfl rfl
theorem wp_md_exchange_d244 : decode prog_13_method_87_code 244 = .ok (.getfield 50, 3) := wt_op180 wb16m6_prog_13_method_87_code_c8 19 rfl rfl rfl
theorem wp_md_exchange_d247 : decode prog_13_method_87_code 247 = .ok (.iload 5, 2) := wt_op21 wb16m6_prog_13_method_87_code_c8 22 rfl rfl
theorem wp_md_exchange_d249 : decode prog_13_method_87_code 249 = .ok (.iload 8, 2) := wt_op21 wb16m6_prog_13_method_87_code_c8 24 rfl rfl
theorem wp_md_exchange_d251 : decode prog_13_method_87_code 251 = .ok (.iastore, 1) := wt_op79 wb16m6_prog_13_method_87_code_c8 26 rfl rfl
theorem wp_md_exchange_d252 : decode prog_13_method_87_code 252 = .ok (.iload 9, 2) := wt_op21 wb16m6_prog_13_method_87_code_c8 27 rfl rfl
theorem wp_md_exchange_d254 : decode prog_13_method_87_code 254 = .ok (.iload_n 2, 1) := wt_op28 wb16m6_prog_13_method_87_code_c9 0 rfl rfl
theorem wp_md_exchange_d255 : decode prog_13_method_87_code 255 = .ok (.if_icmp .gt 6, 3) := wt_op163 wb16m6_prog_13_method_87_code_c9 1 rfl rfl rfl
theorem wp_md_exchange_d258 : decode prog_13_method_87_code 258 = .ok (.goto 15, 3) := wt_op167 wb16m6_prog_13_method_87_code_c9 4 rfl rfl rfl
theorem wp_md_exchange_d261 : decode prog_13_method_87_code 261 = .ok (.iload 9, 2) := wt_op21 wb16m6_prog_13_method_87_code_c9 7 rfl rfl
theorem wp_md_exchange_d263 : decode prog_13_method_87_code 263 = .ok (.istore_n 2, 1) := wt_op61 wb16m6_prog_13_method_87_code_c9 9 rfl rfl
theorem wp_md_exchange_d264 : decode prog_13_method_87_code 264 = .ok (.bipush 100, 2) := wt_op16 wb16m6_prog_13_method_87_code_c9 10 rfl rfl rfl
theorem wp_md_exchange_d266 : decode prog_13_method_87_code 266 = .ok (.iload 4, 2) := wt_op21 wb16m6_prog_13_method_87_code_c9 12 rfl rfl
theorem wp_md_exchange_d268 : decode prog_13_method_87_code 268 = .ok (.imul, 1) := wt_op104 wb16m6_prog_13_method_87_code_c9 14 rfl rfl
theorem wp_md_exchange_d269 : decode prog_13_method_87_code 269 = .ok (.iload 6, 2) := wt_op21 wb16m6_prog_13_method_87_code_c9 15 rfl rfl
theorem wp_md_exchange_d271 : decode prog_13_method_87_code 271 = .ok (.iadd, 1) := wt_op96 wb16m6_prog_13_method_87_code_c9 17 rfl rfl
theorem wp_md_exchange_d272 : decode prog_13_method_87_code 272 = .ok (.istore_n 3, 1) := wt_op62 wb16m6_prog_13_method_87_code_c9 18 rfl rfl
theorem wp_md_exchange_d273 : decode prog_13_method_87_code 273 = .ok (.iinc 6 1, 3) := wt_op132 wb16m6_prog_13_method_87_code_c9 19 rfl rfl rfl
theorem wp_md_exchange_d276 : decode prog_13_method_87_code 276 = .ok (.goto (-146), 3) := wt_op167 wb16m6_prog_13_method_87_code_c9 22 rfl rfl rfl
theorem wp_md_exchange_d279 : decode prog_13_method_87_code 279 = .ok (.iinc 4 1, 3) := wt_op132 wb16m6_prog_13_method_87_code_c9 25 rfl rfl rfl
theorem wp_md_exchange_d282 : decode prog_13_method_87_code 282 = .ok (.goto (-239), 3) := wt_op167 wb16m6_prog_13_method_87_code_c10 0 rfl rfl rfl
theorem wp_md_exchange_d285 : decode prog_13_method_87_code 285 = .ok (.iload_n 3, 1) := wt_op29 wb16m6_prog_13_method_87_code_c10 3 rfl rfl
theorem wp_md_exchange_d286 : decode prog_13_method_87_code 286 = .ok (.ireturn, 1) := wt_op172 wb16m6_prog_13_method_87_code_c10 4 rfl rfl
noncomputable def wp_md_exchange_B279 (n : Nat) (x2 : Int32) (x3 : Int32) (x4 : Int32) (K43 : Int32 × Int32 × Int32 × wt_St → Option (Int32 × wt_St)) (σ : wt_St) : Option (Int32 × wt_St) :=
  K43 (x2, x3, (x4 + (1 : Int32)), σ)
set_option maxRecDepth 100000 in
set_option maxHeartbeats 4000000 in
theorem wp_md_exchange_B279_ok  {x2 : Int32} {x3 : Int32} {x4 : Int32} {X : wt_X} {n : Nat} {res : Int32 × wt_St} (hE : wt_Ok X prog_13_method_87_code 10 "WornTypeModel" 5 0) (hR : wt_Rt X (some .int) (some res.1) res.2) (hD : ∀ i, 108 ≤ i → i < 321 → wt_dom (wt_xw X) i)  {K43 : Int32 × Int32 × Int32 × wt_St → Option (Int32 × wt_St)} (hK43 : ∀ s : Int32 × Int32 × Int32 × wt_St, K43 s = some res → wt_V X 0 s.2.2.2 43 [some (.ref (wt_ad (wt_xw X) 108)), none, some (.int s.1), some (.int s.2.1), some (.int s.2.2.1), none, none, none, none, none] []) {σ : wt_St} (h : wp_md_exchange_B279 n x2 x3 x4 K43 σ = some res) : wt_V X 0 σ 279 [some (.ref (wt_ad (wt_xw X) 108)), none, some (.int x2), some (.int x3), some (.int x4), none, none, none, none, none] [] := by
  unfold wp_md_exchange_B279 at h
  refine wt_iinc hE (x4 + (1 : Int32)) [some (.ref (wt_ad (wt_xw X) 108)), none, some (.int x2), some (.int x3), some (.int (x4 + (1 : Int32))), none, none, none, none, none] wp_md_exchange_d279 (by decide) rfl rfl rfl ?_
  refine wt_goto hE 43 wp_md_exchange_d282 rfl ?_
  exact hK43 (x2, x3, (x4 + (1 : Int32)), σ) h
noncomputable def wp_md_exchange_B273 (n : Nat) (x2 : Int32) (x3 : Int32) (x4 : Int32) (x5 : Int32) (x6 : Int32) (K43 : Int32 × Int32 × Int32 × wt_St → Option (Int32 × wt_St)) (K130 : Int32 × Int32 × Int32 × wt_St → Option (Int32 × wt_St)) (σ : wt_St) : Option (Int32 × wt_St) :=
  K130 (x2, x3, (x6 + (1 : Int32)), σ)
set_option maxRecDepth 100000 in
set_option maxHeartbeats 4000000 in
theorem wp_md_exchange_B273_ok  {x2 : Int32} {x3 : Int32} {x4 : Int32} {x5 : Int32} {x6 : Int32} {X : wt_X} {n : Nat} {res : Int32 × wt_St} (hE : wt_Ok X prog_13_method_87_code 10 "WornTypeModel" 5 0) (hR : wt_Rt X (some .int) (some res.1) res.2) (hD : ∀ i, 108 ≤ i → i < 321 → wt_dom (wt_xw X) i)  {K43 : Int32 × Int32 × Int32 × wt_St → Option (Int32 × wt_St)} (hK43 : ∀ s : Int32 × Int32 × Int32 × wt_St, K43 s = some res → wt_V X 0 s.2.2.2 43 [some (.ref (wt_ad (wt_xw X) 108)), none, some (.int s.1), some (.int s.2.1), some (.int s.2.2.1), none, none, none, none, none] []) {K130 : Int32 × Int32 × Int32 × wt_St → Option (Int32 × wt_St)} (hK130 : ∀ s : Int32 × Int32 × Int32 × wt_St, K130 s = some res → wt_V X 0 s.2.2.2 130 [some (.ref (wt_ad (wt_xw X) 108)), none, some (.int s.1), some (.int s.2.1), some (.int x4), some (.int x5), some (.int s.2.2.1), none, none, none] []) {σ : wt_St} (h : wp_md_exchange_B273 n x2 x3 x4 x5 x6 K43 K130 σ = some res) : wt_V X 0 σ 273 [some (.ref (wt_ad (wt_xw X) 108)), none, some (.int x2), some (.int x3), some (.int x4), some (.int x5), some (.int x6), none, none, none] [] := by
  unfold wp_md_exchange_B273 at h
  refine wt_iinc hE (x6 + (1 : Int32)) [some (.ref (wt_ad (wt_xw X) 108)), none, some (.int x2), some (.int x3), some (.int x4), some (.int x5), some (.int (x6 + (1 : Int32))), none, none, none] wp_md_exchange_d273 (by decide) rfl rfl rfl ?_
  refine wt_goto hE 130 wp_md_exchange_d276 rfl ?_
  exact hK130 (x2, x3, (x6 + (1 : Int32)), σ) h
noncomputable def wp_md_exchange_B208 (n : Nat) (x2 : Int32) (x3 : Int32) (x4 : Int32) (x5 : Int32) (x6 : Int32) (x8 : Int32) (K43 : Int32 × Int32 × Int32 × wt_St → Option (Int32 × wt_St)) (K130 : Int32 × Int32 × Int32 × wt_St → Option (Int32 × wt_St)) (K162 : Int32 × Int32 × wt_St → Option (Int32 × wt_St)) (y0 : Int32) (σ : wt_St) : Option (Int32 × wt_St) :=
  K162 (y0, (x8 + (1 : Int32)), σ)
set_option maxRecDepth 100000 in
set_option maxHeartbeats 4000000 in
theorem wp_md_exchange_B208_ok  {x2 : Int32} {x3 : Int32} {x4 : Int32} {x5 : Int32} {x6 : Int32} {x8 : Int32} {X : wt_X} {n : Nat} {res : Int32 × wt_St} (hE : wt_Ok X prog_13_method_87_code 10 "WornTypeModel" 5 0) (hR : wt_Rt X (some .int) (some res.1) res.2) (hD : ∀ i, 108 ≤ i → i < 321 → wt_dom (wt_xw X) i)  {K43 : Int32 × Int32 × Int32 × wt_St → Option (Int32 × wt_St)} (hK43 : ∀ s : Int32 × Int32 × Int32 × wt_St, K43 s = some res → wt_V X 0 s.2.2.2 43 [some (.ref (wt_ad (wt_xw X) 108)), none, some (.int s.1), some (.int s.2.1), some (.int s.2.2.1), none, none, none, none, none] []) {K130 : Int32 × Int32 × Int32 × wt_St → Option (Int32 × wt_St)} (hK130 : ∀ s : Int32 × Int32 × Int32 × wt_St, K130 s = some res → wt_V X 0 s.2.2.2 130 [some (.ref (wt_ad (wt_xw X) 108)), none, some (.int s.1), some (.int s.2.1), some (.int x4), some (.int x5), some (.int s.2.2.1), none, none, none] []) {K162 : Int32 × Int32 × wt_St → Option (Int32 × wt_St)} (hK162 : ∀ s : Int32 × Int32 × wt_St, K162 s = some res → wt_V X 0 s.2.2 162 [some (.ref (wt_ad (wt_xw X) 108)), none, some (.int x2), some (.int x3), some (.int x4), some (.int x5), some (.int x6), some (.int s.1), some (.int s.2.1), none] []) {σ : wt_St} {y0 : Int32} (h : wp_md_exchange_B208 n x2 x3 x4 x5 x6 x8 K43 K130 K162 y0 σ = some res) : wt_V X 0 σ 208 [some (.ref (wt_ad (wt_xw X) 108)), none, some (.int x2), some (.int x3), some (.int x4), some (.int x5), some (.int x6), none, some (.int x8), none] [.int y0] := by
  unfold wp_md_exchange_B208 at h
  refine wt_istore hE [some (.ref (wt_ad (wt_xw X) 108)), none, some (.int x2), some (.int x3), some (.int x4), some (.int x5), some (.int x6), some (.int y0), some (.int x8), none] wp_md_exchange_d208 (Nat.le_of_ble_eq_true rfl) rfl ?_
  refine wt_iinc hE (x8 + (1 : Int32)) [some (.ref (wt_ad (wt_xw X) 108)), none, some (.int x2), some (.int x3), some (.int x4), some (.int x5), some (.int x6), some (.int y0), some (.int (x8 + (1 : Int32))), none] wp_md_exchange_d210 (by decide) rfl rfl rfl ?_
  refine wt_goto hE 162 wp_md_exchange_d213 rfl ?_
  exact hK162 (y0, (x8 + (1 : Int32)), σ) h
noncomputable def wp_md_exchange_B162 (n : Nat) (x2 : Int32) (x3 : Int32) (x4 : Int32) (x5 : Int32) (x6 : Int32) (K43 : Int32 × Int32 × Int32 × wt_St → Option (Int32 × wt_St)) (K130 : Int32 × Int32 × Int32 × wt_St → Option (Int32 × wt_St)) (K162 : Int32 × Int32 × wt_St → Option (Int32 × wt_St)) (s : Int32 × Int32 × wt_St) : Option (Int32 × wt_St) :=
  if x6 < 0 ∨ 26 ≤ Int32.toNatClampNeg x6 then none else
  if (wt_ga s.2.2 113 (Int32.toNatClampNeg x6)) ≤ s.2.1 then
    if x5 < 0 ∨ 338 ≤ Int32.toNatClampNeg x5 then none else
    if x5 < 0 ∨ 338 ≤ Int32.toNatClampNeg x5 then none else
    (wp_md_withOne n x6 s.1 (wt_sa s.2.2 121 (Int32.toNatClampNeg x5) (0 : Int32))).bind fun q18 =>
    if x5 < 0 ∨ 338 ≤ Int32.toNatClampNeg x5 then none else
    if x2 < q18.1 then
      wp_md_exchange_B273 n q18.1 (((100 : Int32) * x4) + x6) x4 x5 x6 K43 K130 (wt_sa q18.2 121 (Int32.toNatClampNeg x5) (wt_ga s.2.2 121 (Int32.toNatClampNeg x5)))
    else
      wp_md_exchange_B273 n x2 x3 x4 x5 x6 K43 K130 (wt_sa q18.2 121 (Int32.toNatClampNeg x5) (wt_ga s.2.2 121 (Int32.toNatClampNeg x5)))
  else
    (wp_md_cell n x6 s.2.1 s.2.2).bind fun q21 =>
    if q21.1 < 0 ∨ 338 ≤ Int32.toNatClampNeg q21.1 then none else
    if (wt_ga q21.2 123 (Int32.toNatClampNeg q21.1)) ≤ s.1 then
      wp_md_exchange_B208 n x2 x3 x4 x5 x6 s.2.1 K43 K130 K162 s.1 q21.2
    else
      (wp_md_cell n x6 s.2.1 q21.2).bind fun q24 =>
      if q24.1 < 0 ∨ 338 ≤ Int32.toNatClampNeg q24.1 then none else
      wp_md_exchange_B208 n x2 x3 x4 x5 x6 s.2.1 K43 K130 K162 (wt_ga q24.2 123 (Int32.toNatClampNeg q24.1)) q24.2
set_option maxRecDepth 100000 in
set_option maxHeartbeats 4000000 in
theorem wp_md_exchange_B162_ok  {x2 : Int32} {x3 : Int32} {x4 : Int32} {x5 : Int32} {x6 : Int32} {X : wt_X} {n : Nat} {res : Int32 × wt_St} (hE : wt_Ok X prog_13_method_87_code 10 "WornTypeModel" 5 0) (hR : wt_Rt X (some .int) (some res.1) res.2) (hD : ∀ i, 108 ≤ i → i < 321 → wt_dom (wt_xw X) i)  {K43 : Int32 × Int32 × Int32 × wt_St → Option (Int32 × wt_St)} (hK43 : ∀ s : Int32 × Int32 × Int32 × wt_St, K43 s = some res → wt_V X 0 s.2.2.2 43 [some (.ref (wt_ad (wt_xw X) 108)), none, some (.int s.1), some (.int s.2.1), some (.int s.2.2.1), none, none, none, none, none] []) {K130 : Int32 × Int32 × Int32 × wt_St → Option (Int32 × wt_St)} (hK130 : ∀ s : Int32 × Int32 × Int32 × wt_St, K130 s = some res → wt_V X 0 s.2.2.2 130 [some (.ref (wt_ad (wt_xw X) 108)), none, some (.int s.1), some (.int s.2.1), some (.int x4), some (.int x5), some (.int s.2.2.1), none, none, none] []) {K162 : Int32 × Int32 × wt_St → Option (Int32 × wt_St)} (hK162 : ∀ s : Int32 × Int32 × wt_St, K162 s = some res → wt_V X 0 s.2.2 162 [some (.ref (wt_ad (wt_xw X) 108)), none, some (.int x2), some (.int x3), some (.int x4), some (.int x5), some (.int x6), some (.int s.1), some (.int s.2.1), none] []) {s : Int32 × Int32 × wt_St} (h : wp_md_exchange_B162 n x2 x3 x4 x5 x6 K43 K130 K162 s = some res) : wt_V X 0 s.2.2 162 [some (.ref (wt_ad (wt_xw X) 108)), none, some (.int x2), some (.int x3), some (.int x4), some (.int x5), some (.int x6), some (.int s.1), some (.int s.2.1), none] [] := by
  unfold wp_md_exchange_B162 at h
  refine wt_iload hE wp_md_exchange_d162 rfl ?_
  refine wt_aload_n hE wp_md_exchange_d164 rfl ?_
  refine wt_getr hE (r := 113) wt_lf_md_26 (hD 108 (by decide) (by decide)) wt_L108 rfl wp_md_exchange_d165 ?_
  refine wt_iload hE wp_md_exchange_d168 rfl ?_
  obtain ⟨g14, h⟩ := wt_gd h
  refine wt_iald hE (hD 113 (by decide) (by decide)) wt_L113 g14 wp_md_exchange_d170 ?_
  refine wt_icmp_ge hE 216 wp_md_exchange_d171 rfl (fun c15 => ?_) (fun c15 => ?_)
  · have h := wt_ip c15 h
    refine wt_aload_n hE wp_md_exchange_d216 rfl ?_
    refine wt_getr hE (r := 121) wt_lf_md_50 (hD 108 (by decide) (by decide)) wt_L108 rfl wp_md_exchange_d217 ?_
    refine wt_iload hE wp_md_exchange_d220 rfl ?_
    obtain ⟨g16, h⟩ := wt_gd h
    refine wt_iald hE (hD 121 (by decide) (by decide)) wt_L121 g16 wp_md_exchange_d222 ?_
    refine wt_istore hE [some (.ref (wt_ad (wt_xw X) 108)), none, some (.int x2), some (.int x3), some (.int x4), some (.int x5), some (.int x6), some (.int s.1), some (.int (wt_ga s.2.2 121 (Int32.toNatClampNeg x5))), none] wp_md_exchange_d223 (Nat.le_of_ble_eq_true rfl) rfl ?_
    refine wt_aload_n hE wp_md_exchange_d225 rfl ?_
    refine wt_getr hE (r := 121) wt_lf_md_50 (hD 108 (by decide) (by decide)) wt_L108 rfl wp_md_exchange_d226 ?_
    refine wt_iload hE wp_md_exchange_d229 rfl ?_
    refine wt_iconst hE (0 : Int32) wp_md_exchange_d231 wt_ci_0 ?_
    obtain ⟨g17, h⟩ := wt_gd h
    refine wt_iast hE (hD 121 (by decide) (by decide)) wt_L121 g17 wp_md_exchange_d232 ?_
    refine wt_aload_n hE wp_md_exchange_d233 rfl ?_
    refine wt_iload hE wp_md_exchange_d234 rfl ?_
    refine wt_iload hE wp_md_exchange_d236 rfl ?_
    obtain ⟨q18, hq18, h⟩ := wt_bi h
    refine wt_callVi hE [.int x6, .int s.1] wt_lm_md_381 wt_ya_md_withOne (wp_md_withOne_ok hD hq18) (by omega) (hD 108 (by decide) (by decide)) wt_L108 rfl rfl rfl (Nat.le_of_ble_eq_true rfl) (Nat.zero_le _) wp_md_exchange_d238 (fun hbq18 => ?_)
    refine wt_istore hE [some (.ref (wt_ad (wt_xw X) 108)), none, some (.int x2), some (.int x3), some (.int x4), some (.int x5), some (.int x6), some (.int s.1), some (.int (wt_ga s.2.2 121 (Int32.toNatClampNeg x5))), some (.int q18.1)] wp_md_exchange_d241 (Nat.le_of_ble_eq_true rfl) rfl ?_
    refine wt_aload_n hE wp_md_exchange_d243 rfl ?_
    refine wt_getr hE (r := 121) wt_lf_md_50 (hD 108 (by decide) (by decide)) wt_L108 rfl wp_md_exchange_d244 ?_
    refine wt_iload hE wp_md_exchange_d247 rfl ?_
    refine wt_iload hE wp_md_exchange_d249 rfl ?_
    obtain ⟨g19, h⟩ := wt_gd h
    refine wt_iast hE (hD 121 (by decide) (by decide)) wt_L121 g19 wp_md_exchange_d251 ?_
    refine wt_iload hE wp_md_exchange_d252 rfl ?_
    refine wt_iload_n hE wp_md_exchange_d254 rfl ?_
    refine wt_icmp_gt hE 261 wp_md_exchange_d255 rfl (fun c20 => ?_) (fun c20 => ?_)
    · have h := wt_ip c20 h
      refine wt_iload hE wp_md_exchange_d261 rfl ?_
      refine wt_istore_n hE [some (.ref (wt_ad (wt_xw X) 108)), none, some (.int q18.1), some (.int x3), some (.int x4), some (.int x5), some (.int x6), some (.int s.1), some (.int (wt_ga s.2.2 121 (Int32.toNatClampNeg x5))), some (.int q18.1)] wp_md_exchange_d263 (by decide) rfl ?_
      refine wt_bipush hE (100 : Int32) wp_md_exchange_d264 wt_cb_100 ?_
      refine wt_iload hE wp_md_exchange_d266 rfl ?_
      refine wt_imul hE wp_md_exchange_d268 ?_
      refine wt_iload hE wp_md_exchange_d269 rfl ?_
      refine wt_iadd hE wp_md_exchange_d271 ?_
      refine wt_istore_n hE [some (.ref (wt_ad (wt_xw X) 108)), none, some (.int q18.1), some (.int (((100 : Int32) * x4) + x6)), some (.int x4), some (.int x5), some (.int x6), some (.int s.1), some (.int (wt_ga s.2.2 121 (Int32.toNatClampNeg x5))), some (.int q18.1)] wp_md_exchange_d272 (by decide) rfl ?_
      refine wt_wk [true, true, true, true, true, true, true, false, false, false] rfl ?_
      exact wp_md_exchange_B273_ok hE hR hD hK43 hK130 h
    · have h := wt_in c20 h
      refine wt_goto hE 273 wp_md_exchange_d258 rfl ?_
      refine wt_wk [true, true, true, true, true, true, true, false, false, false] rfl ?_
      exact wp_md_exchange_B273_ok hE hR hD hK43 hK130 h
  · have h := wt_in c15 h
    refine wt_aload_n hE wp_md_exchange_d174 rfl ?_
    refine wt_getr hE (r := 123) wt_lf_md_56 (hD 108 (by decide) (by decide)) wt_L108 rfl wp_md_exchange_d175 ?_
    refine wt_iload hE wp_md_exchange_d178 rfl ?_
    refine wt_iload hE wp_md_exchange_d180 rfl ?_
    obtain ⟨q21, hq21, h⟩ := wt_bi h
    refine wt_callSi hE [.int x6, .int s.2.1] wt_lm_md_227 wt_ya_md_cell (wp_md_cell_ok hq21) (by omega) rfl rfl (Nat.le_of_ble_eq_true rfl) (Nat.zero_le _) wp_md_exchange_d182 (fun hbq21 => ?_)
    obtain ⟨g22, h⟩ := wt_gd h
    refine wt_iald hE (hD 123 (by decide) (by decide)) wt_L123 g22 wp_md_exchange_d185 ?_
    refine wt_iload hE wp_md_exchange_d186 rfl ?_
    refine wt_icmp_le hE 206 wp_md_exchange_d188 rfl (fun c23 => ?_) (fun c23 => ?_)
    · have h := wt_ip c23 h
      refine wt_iload hE wp_md_exchange_d206 rfl ?_
      refine wt_wk [true, true, true, true, true, true, true, false, true, true] rfl ?_
      exact wp_md_exchange_B208_ok hE hR hD hK43 hK130 hK162 h
    · have h := wt_in c23 h
      refine wt_aload_n hE wp_md_exchange_d191 rfl ?_
      refine wt_getr hE (r := 123) wt_lf_md_56 (hD 108 (by decide) (by decide)) wt_L108 rfl wp_md_exchange_d192 ?_
      refine wt_iload hE wp_md_exchange_d195 rfl ?_
      refine wt_iload hE wp_md_exchange_d197 rfl ?_
      obtain ⟨q24, hq24, h⟩ := wt_bi h
      refine wt_callSi hE [.int x6, .int s.2.1] wt_lm_md_227 wt_ya_md_cell (wp_md_cell_ok hq24) (by omega) rfl rfl (Nat.le_of_ble_eq_true rfl) (Nat.zero_le _) wp_md_exchange_d199 (fun hbq24 => ?_)
      obtain ⟨g25, h⟩ := wt_gd h
      refine wt_iald hE (hD 123 (by decide) (by decide)) wt_L123 g25 wp_md_exchange_d202 ?_
      refine wt_goto hE 208 wp_md_exchange_d203 rfl ?_
      refine wt_wk [true, true, true, true, true, true, true, false, true, true] rfl ?_
      exact wp_md_exchange_B208_ok hE hR hD hK43 hK130 hK162 h
noncomputable def wp_md_exchange_B130 (n : Nat) (x4 : Int32) (x5 : Int32) (K43 : Int32 × Int32 × Int32 × wt_St → Option (Int32 × wt_St)) (K130 : Int32 × Int32 × Int32 × wt_St → Option (Int32 × wt_St)) (s : Int32 × Int32 × Int32 × wt_St) : Option (Int32 × wt_St) :=
  if (26 : Int32) ≤ s.2.2.1 then
    wp_md_exchange_B279 n s.1 s.2.1 x4 K43 s.2.2.2
  else
    if x5 = (-1 : Int32) then
      wp_md_exchange_B279 n s.1 s.2.1 x4 K43 s.2.2.2
    else
      if s.2.2.1 < 0 ∨ 26 ≤ Int32.toNatClampNeg s.2.2.1 then none else
      if (wt_ga s.2.2.2 113 (Int32.toNatClampNeg s.2.2.1)) = 0 then
        wp_md_exchange_B273 n s.1 s.2.1 x4 x5 s.2.2.1 K43 K130 s.2.2.2
      else
        wt_it (wp_md_exchange_B162 n s.1 s.2.1 x4 x5 s.2.2.1 K43 K130) n ((0 : Int32), (0 : Int32), s.2.2.2)
set_option maxRecDepth 100000 in
set_option maxHeartbeats 4000000 in
theorem wp_md_exchange_B130_ok  {x4 : Int32} {x5 : Int32} {X : wt_X} {n : Nat} {res : Int32 × wt_St} (hE : wt_Ok X prog_13_method_87_code 10 "WornTypeModel" 5 0) (hR : wt_Rt X (some .int) (some res.1) res.2) (hD : ∀ i, 108 ≤ i → i < 321 → wt_dom (wt_xw X) i)  {K43 : Int32 × Int32 × Int32 × wt_St → Option (Int32 × wt_St)} (hK43 : ∀ s : Int32 × Int32 × Int32 × wt_St, K43 s = some res → wt_V X 0 s.2.2.2 43 [some (.ref (wt_ad (wt_xw X) 108)), none, some (.int s.1), some (.int s.2.1), some (.int s.2.2.1), none, none, none, none, none] []) {K130 : Int32 × Int32 × Int32 × wt_St → Option (Int32 × wt_St)} (hK130 : ∀ s : Int32 × Int32 × Int32 × wt_St, K130 s = some res → wt_V X 0 s.2.2.2 130 [some (.ref (wt_ad (wt_xw X) 108)), none, some (.int s.1), some (.int s.2.1), some (.int x4), some (.int x5), some (.int s.2.2.1), none, none, none] []) {s : Int32 × Int32 × Int32 × wt_St} (h : wp_md_exchange_B130 n x4 x5 K43 K130 s = some res) : wt_V X 0 s.2.2.2 130 [some (.ref (wt_ad (wt_xw X) 108)), none, some (.int s.1), some (.int s.2.1), some (.int x4), some (.int x5), some (.int s.2.2.1), none, none, none] [] := by
  unfold wp_md_exchange_B130 at h
  refine wt_iload hE wp_md_exchange_d130 rfl ?_
  refine wt_bipush hE (26 : Int32) wp_md_exchange_d132 wt_cb_26 ?_
  refine wt_icmp_ge hE 279 wp_md_exchange_d134 rfl (fun c10 => ?_) (fun c10 => ?_)
  · have h := wt_ip c10 h
    refine wt_wk [true, true, true, true, true, false, false, true, true, true] rfl ?_
    exact wp_md_exchange_B279_ok hE hR hD hK43 h
  · have h := wt_in c10 h
    refine wt_iload hE wp_md_exchange_d137 rfl ?_
    refine wt_iconst hE (-1 : Int32) wp_md_exchange_d139 wt_ci_m1 ?_
    refine wt_icmp_eq hE 279 wp_md_exchange_d140 rfl (fun c11 => ?_) (fun c11 => ?_)
    · have h := wt_ip c11 h
      refine wt_wk [true, true, true, true, true, false, false, true, true, true] rfl ?_
      exact wp_md_exchange_B279_ok hE hR hD hK43 h
    · have h := wt_in c11 h
      refine wt_aload_n hE wp_md_exchange_d143 rfl ?_
      refine wt_getr hE (r := 113) wt_lf_md_26 (hD 108 (by decide) (by decide)) wt_L108 rfl wp_md_exchange_d144 ?_
      refine wt_iload hE wp_md_exchange_d147 rfl ?_
      obtain ⟨g12, h⟩ := wt_gd h
      refine wt_iald hE (hD 113 (by decide) (by decide)) wt_L113 g12 wp_md_exchange_d149 ?_
      refine wt_if_ne hE 156 wp_md_exchange_d150 rfl (fun c13 => ?_) (fun c13 => ?_)
      · have h := wt_in c13 h
        refine wt_iconst hE (0 : Int32) wp_md_exchange_d156 wt_ci_0 ?_
        refine wt_istore hE [some (.ref (wt_ad (wt_xw X) 108)), none, some (.int s.1), some (.int s.2.1), some (.int x4), some (.int x5), some (.int s.2.2.1), some (.int (0 : Int32)), none, none] wp_md_exchange_d157 (Nat.le_of_ble_eq_true rfl) rfl ?_
        refine wt_iconst hE (0 : Int32) wp_md_exchange_d159 wt_ci_0 ?_
        refine wt_istore hE [some (.ref (wt_ad (wt_xw X) 108)), none, some (.int s.1), some (.int s.2.1), some (.int x4), some (.int x5), some (.int s.2.2.1), some (.int (0 : Int32)), some (.int (0 : Int32)), none] wp_md_exchange_d160 (Nat.le_of_ble_eq_true rfl) rfl ?_
        exact wt_it_ind (fun z => wt_V X 0 z.2.2 162 [some (.ref (wt_ad (wt_xw X) 108)), none, some (.int s.1), some (.int s.2.1), some (.int x4), some (.int x5), some (.int s.2.2.1), some (.int z.1), some (.int z.2.1), none] []) (fun K hK z h => wp_md_exchange_B162_ok hE hR hD hK43 hK130 hK h) n ((0 : Int32), (0 : Int32), s.2.2.2) h
      · have h := wt_ip c13 h
        refine wt_goto hE 273 wp_md_exchange_d153 rfl ?_
        exact wp_md_exchange_B273_ok hE hR hD hK43 hK130 h
noncomputable def wp_md_exchange_B121 (n : Nat) (x2 : Int32) (x3 : Int32) (x4 : Int32) (x5 : Int32) (x6 : Int32) (K43 : Int32 × Int32 × Int32 × wt_St → Option (Int32 × wt_St)) (K56 : Int32 × Int32 × wt_St → Option (Int32 × wt_St)) (σ : wt_St) : Option (Int32 × wt_St) :=
  K56 (x5, (x6 + (1 : Int32)), σ)
set_option maxRecDepth 100000 in
set_option maxHeartbeats 4000000 in
theorem wp_md_exchange_B121_ok  {x2 : Int32} {x3 : Int32} {x4 : Int32} {x5 : Int32} {x6 : Int32} {X : wt_X} {n : Nat} {res : Int32 × wt_St} (hE : wt_Ok X prog_13_method_87_code 10 "WornTypeModel" 5 0) (hR : wt_Rt X (some .int) (some res.1) res.2) (hD : ∀ i, 108 ≤ i → i < 321 → wt_dom (wt_xw X) i)  {K43 : Int32 × Int32 × Int32 × wt_St → Option (Int32 × wt_St)} (hK43 : ∀ s : Int32 × Int32 × Int32 × wt_St, K43 s = some res → wt_V X 0 s.2.2.2 43 [some (.ref (wt_ad (wt_xw X) 108)), none, some (.int s.1), some (.int s.2.1), some (.int s.2.2.1), none, none, none, none, none] []) {K56 : Int32 × Int32 × wt_St → Option (Int32 × wt_St)} (hK56 : ∀ s : Int32 × Int32 × wt_St, K56 s = some res → wt_V X 0 s.2.2 56 [some (.ref (wt_ad (wt_xw X) 108)), none, some (.int x2), some (.int x3), some (.int x4), some (.int s.1), some (.int s.2.1), none, none, none] []) {σ : wt_St} (h : wp_md_exchange_B121 n x2 x3 x4 x5 x6 K43 K56 σ = some res) : wt_V X 0 σ 121 [some (.ref (wt_ad (wt_xw X) 108)), none, some (.int x2), some (.int x3), some (.int x4), some (.int x5), some (.int x6), none, none, none] [] := by
  unfold wp_md_exchange_B121 at h
  refine wt_iinc hE (x6 + (1 : Int32)) [some (.ref (wt_ad (wt_xw X) 108)), none, some (.int x2), some (.int x3), some (.int x4), some (.int x5), some (.int (x6 + (1 : Int32))), none, none, none] wp_md_exchange_d121 (by decide) rfl rfl rfl ?_
  refine wt_goto hE 56 wp_md_exchange_d124 rfl ?_
  exact hK56 (x5, (x6 + (1 : Int32)), σ) h
noncomputable def wp_md_exchange_B112 (n : Nat) (x2 : Int32) (x3 : Int32) (x4 : Int32) (x6 : Int32) (K43 : Int32 × Int32 × Int32 × wt_St → Option (Int32 × wt_St)) (K56 : Int32 × Int32 × wt_St → Option (Int32 × wt_St)) (σ : wt_St) : Option (Int32 × wt_St) :=
  (wp_md_cell n x4 x6 σ).bind fun q30 =>
  wp_md_exchange_B121 n x2 x3 x4 q30.1 x6 K43 K56 q30.2
set_option maxRecDepth 100000 in
set_option maxHeartbeats 4000000 in
theorem wp_md_exchange_B112_ok  {x2 : Int32} {x3 : Int32} {x4 : Int32} {x6 : Int32} {X : wt_X} {n : Nat} {res : Int32 × wt_St} (hE : wt_Ok X prog_13_method_87_code 10 "WornTypeModel" 5 0) (hR : wt_Rt X (some .int) (some res.1) res.2) (hD : ∀ i, 108 ≤ i → i < 321 → wt_dom (wt_xw X) i)  {K43 : Int32 × Int32 × Int32 × wt_St → Option (Int32 × wt_St)} (hK43 : ∀ s : Int32 × Int32 × Int32 × wt_St, K43 s = some res → wt_V X 0 s.2.2.2 43 [some (.ref (wt_ad (wt_xw X) 108)), none, some (.int s.1), some (.int s.2.1), some (.int s.2.2.1), none, none, none, none, none] []) {K56 : Int32 × Int32 × wt_St → Option (Int32 × wt_St)} (hK56 : ∀ s : Int32 × Int32 × wt_St, K56 s = some res → wt_V X 0 s.2.2 56 [some (.ref (wt_ad (wt_xw X) 108)), none, some (.int x2), some (.int x3), some (.int x4), some (.int s.1), some (.int s.2.1), none, none, none] []) {σ : wt_St} (h : wp_md_exchange_B112 n x2 x3 x4 x6 K43 K56 σ = some res) : wt_V X 0 σ 112 [some (.ref (wt_ad (wt_xw X) 108)), none, some (.int x2), some (.int x3), some (.int x4), none, some (.int x6), none, none, none] [] := by
  unfold wp_md_exchange_B112 at h
  refine wt_iload hE wp_md_exchange_d112 rfl ?_
  refine wt_iload hE wp_md_exchange_d114 rfl ?_
  obtain ⟨q30, hq30, h⟩ := wt_bi h
  refine wt_callSi hE [.int x4, .int x6] wt_lm_md_227 wt_ya_md_cell (wp_md_cell_ok hq30) (by omega) rfl rfl (Nat.le_of_ble_eq_true rfl) (Nat.zero_le _) wp_md_exchange_d116 (fun hbq30 => ?_)
  refine wt_istore hE [some (.ref (wt_ad (wt_xw X) 108)), none, some (.int x2), some (.int x3), some (.int x4), some (.int q30.1), some (.int x6), none, none, none] wp_md_exchange_d119 (Nat.le_of_ble_eq_true rfl) rfl ?_
  exact wp_md_exchange_B121_ok hE hR hD hK43 hK56 h
noncomputable def wp_md_exchange_B56 (n : Nat) (x2 : Int32) (x3 : Int32) (x4 : Int32) (K43 : Int32 × Int32 × Int32 × wt_St → Option (Int32 × wt_St)) (K56 : Int32 × Int32 × wt_St → Option (Int32 × wt_St)) (s : Int32 × Int32 × wt_St) : Option (Int32 × wt_St) :=
  if x4 < 0 ∨ 26 ≤ Int32.toNatClampNeg x4 then none else
  if (wt_ga s.2.2 111 (Int32.toNatClampNeg x4)) ≤ s.2.1 then
    wt_it (wp_md_exchange_B130 n x4 s.1 K43) n (x2, x3, (0 : Int32), s.2.2)
  else
    (wp_md_cell n x4 s.2.1 s.2.2).bind fun q26 =>
    if q26.1 < 0 ∨ 338 ≤ Int32.toNatClampNeg q26.1 then none else
    if (wt_ga q26.2 124 (Int32.toNatClampNeg q26.1)) = (-1 : Int32) then
      if s.1 = (-1 : Int32) then
        wp_md_exchange_B112 n x2 x3 x4 s.2.1 K43 K56 q26.2
      else
        (wp_md_cell n x4 s.2.1 q26.2).bind fun q31 =>
        if q31.1 < 0 ∨ 338 ≤ Int32.toNatClampNeg q31.1 then none else
        if s.1 < 0 ∨ 338 ≤ Int32.toNatClampNeg s.1 then none else
        if (wt_ga q31.2 121 (Int32.toNatClampNeg s.1)) ≤ (wt_ga q31.2 121 (Int32.toNatClampNeg q31.1)) then
          wp_md_exchange_B121 n x2 x3 x4 s.1 s.2.1 K43 K56 q31.2
        else
          wp_md_exchange_B112 n x2 x3 x4 s.2.1 K43 K56 q31.2
    else
      wp_md_exchange_B121 n x2 x3 x4 s.1 s.2.1 K43 K56 q26.2
set_option maxRecDepth 100000 in
set_option maxHeartbeats 4000000 in
theorem wp_md_exchange_B56_ok  {x2 : Int32} {x3 : Int32} {x4 : Int32} {X : wt_X} {n : Nat} {res : Int32 × wt_St} (hE : wt_Ok X prog_13_method_87_code 10 "WornTypeModel" 5 0) (hR : wt_Rt X (some .int) (some res.1) res.2) (hD : ∀ i, 108 ≤ i → i < 321 → wt_dom (wt_xw X) i)  {K43 : Int32 × Int32 × Int32 × wt_St → Option (Int32 × wt_St)} (hK43 : ∀ s : Int32 × Int32 × Int32 × wt_St, K43 s = some res → wt_V X 0 s.2.2.2 43 [some (.ref (wt_ad (wt_xw X) 108)), none, some (.int s.1), some (.int s.2.1), some (.int s.2.2.1), none, none, none, none, none] []) {K56 : Int32 × Int32 × wt_St → Option (Int32 × wt_St)} (hK56 : ∀ s : Int32 × Int32 × wt_St, K56 s = some res → wt_V X 0 s.2.2 56 [some (.ref (wt_ad (wt_xw X) 108)), none, some (.int x2), some (.int x3), some (.int x4), some (.int s.1), some (.int s.2.1), none, none, none] []) {s : Int32 × Int32 × wt_St} (h : wp_md_exchange_B56 n x2 x3 x4 K43 K56 s = some res) : wt_V X 0 s.2.2 56 [some (.ref (wt_ad (wt_xw X) 108)), none, some (.int x2), some (.int x3), some (.int x4), some (.int s.1), some (.int s.2.1), none, none, none] [] := by
  unfold wp_md_exchange_B56 at h
  refine wt_iload hE wp_md_exchange_d56 rfl ?_
  refine wt_aload_n hE wp_md_exchange_d58 rfl ?_
  refine wt_getr hE (r := 111) wt_lf_md_20 (hD 108 (by decide) (by decide)) wt_L108 rfl wp_md_exchange_d59 ?_
  refine wt_iload hE wp_md_exchange_d62 rfl ?_
  obtain ⟨g8, h⟩ := wt_gd h
  refine wt_iald hE (hD 111 (by decide) (by decide)) wt_L111 g8 wp_md_exchange_d64 ?_
  refine wt_icmp_ge hE 127 wp_md_exchange_d65 rfl (fun c9 => ?_) (fun c9 => ?_)
  · have h := wt_ip c9 h
    refine wt_iconst hE (0 : Int32) wp_md_exchange_d127 wt_ci_0 ?_
    refine wt_istore hE [some (.ref (wt_ad (wt_xw X) 108)), none, some (.int x2), some (.int x3), some (.int x4), some (.int s.1), some (.int (0 : Int32)), none, none, none] wp_md_exchange_d128 (Nat.le_of_ble_eq_true rfl) rfl ?_
    exact wt_it_ind (fun z => wt_V X 0 z.2.2.2 130 [some (.ref (wt_ad (wt_xw X) 108)), none, some (.int z.1), some (.int z.2.1), some (.int x4), some (.int s.1), some (.int z.2.2.1), none, none, none] []) (fun K hK z h => wp_md_exchange_B130_ok hE hR hD hK43 hK h) n (x2, x3, (0 : Int32), s.2.2) h
  · have h := wt_in c9 h
    refine wt_aload_n hE wp_md_exchange_d68 rfl ?_
    refine wt_getr hE (r := 124) wt_lf_md_59 (hD 108 (by decide) (by decide)) wt_L108 rfl wp_md_exchange_d69 ?_
    refine wt_iload hE wp_md_exchange_d72 rfl ?_
    refine wt_iload hE wp_md_exchange_d74 rfl ?_
    obtain ⟨q26, hq26, h⟩ := wt_bi h
    refine wt_callSi hE [.int x4, .int s.2.1] wt_lm_md_227 wt_ya_md_cell (wp_md_cell_ok hq26) (by omega) rfl rfl (Nat.le_of_ble_eq_true rfl) (Nat.zero_le _) wp_md_exchange_d76 (fun hbq26 => ?_)
    obtain ⟨g27, h⟩ := wt_gd h
    refine wt_iald hE (hD 124 (by decide) (by decide)) wt_L124 g27 wp_md_exchange_d79 ?_
    refine wt_iconst hE (-1 : Int32) wp_md_exchange_d80 wt_ci_m1 ?_
    refine wt_icmp_ne hE 121 wp_md_exchange_d81 rfl (fun c28 => ?_) (fun c28 => ?_)
    · have h := wt_in c28 h
      exact wp_md_exchange_B121_ok hE hR hD hK43 hK56 h
    · have h := wt_ip c28 h
      refine wt_iload hE wp_md_exchange_d84 rfl ?_
      refine wt_iconst hE (-1 : Int32) wp_md_exchange_d86 wt_ci_m1 ?_
      refine wt_icmp_eq hE 112 wp_md_exchange_d87 rfl (fun c29 => ?_) (fun c29 => ?_)
      · have h := wt_ip c29 h
        refine wt_wk [true, true, true, true, true, false, true, true, true, true] rfl ?_
        exact wp_md_exchange_B112_ok hE hR hD hK43 hK56 h
      · have h := wt_in c29 h
        refine wt_aload_n hE wp_md_exchange_d90 rfl ?_
        refine wt_getr hE (r := 121) wt_lf_md_50 (hD 108 (by decide) (by decide)) wt_L108 rfl wp_md_exchange_d91 ?_
        refine wt_iload hE wp_md_exchange_d94 rfl ?_
        refine wt_iload hE wp_md_exchange_d96 rfl ?_
        obtain ⟨q31, hq31, h⟩ := wt_bi h
        refine wt_callSi hE [.int x4, .int s.2.1] wt_lm_md_227 wt_ya_md_cell (wp_md_cell_ok hq31) (by omega) rfl rfl (Nat.le_of_ble_eq_true rfl) (Nat.zero_le _) wp_md_exchange_d98 (fun hbq31 => ?_)
        obtain ⟨g32, h⟩ := wt_gd h
        refine wt_iald hE (hD 121 (by decide) (by decide)) wt_L121 g32 wp_md_exchange_d101 ?_
        refine wt_aload_n hE wp_md_exchange_d102 rfl ?_
        refine wt_getr hE (r := 121) wt_lf_md_50 (hD 108 (by decide) (by decide)) wt_L108 rfl wp_md_exchange_d103 ?_
        refine wt_iload hE wp_md_exchange_d106 rfl ?_
        obtain ⟨g33, h⟩ := wt_gd h
        refine wt_iald hE (hD 121 (by decide) (by decide)) wt_L121 g33 wp_md_exchange_d108 ?_
        refine wt_icmp_ge hE 121 wp_md_exchange_d109 rfl (fun c34 => ?_) (fun c34 => ?_)
        · have h := wt_ip c34 h
          exact wp_md_exchange_B121_ok hE hR hD hK43 hK56 h
        · have h := wt_in c34 h
          refine wt_wk [true, true, true, true, true, false, true, true, true, true] rfl ?_
          exact wp_md_exchange_B112_ok hE hR hD hK43 hK56 h
noncomputable def wp_md_exchange_B43 (n : Nat) (K43 : Int32 × Int32 × Int32 × wt_St → Option (Int32 × wt_St)) (s : Int32 × Int32 × Int32 × wt_St) : Option (Int32 × wt_St) :=
  if (26 : Int32) ≤ s.2.2.1 then
    some (s.2.1, s.2.2.2)
  else
    wt_it (wp_md_exchange_B56 n s.1 s.2.1 s.2.2.1 K43) n ((-1 : Int32), (0 : Int32), s.2.2.2)
set_option maxRecDepth 100000 in
set_option maxHeartbeats 4000000 in
theorem wp_md_exchange_B43_ok  {X : wt_X} {n : Nat} {res : Int32 × wt_St} (hE : wt_Ok X prog_13_method_87_code 10 "WornTypeModel" 5 0) (hR : wt_Rt X (some .int) (some res.1) res.2) (hD : ∀ i, 108 ≤ i → i < 321 → wt_dom (wt_xw X) i)  {K43 : Int32 × Int32 × Int32 × wt_St → Option (Int32 × wt_St)} (hK43 : ∀ s : Int32 × Int32 × Int32 × wt_St, K43 s = some res → wt_V X 0 s.2.2.2 43 [some (.ref (wt_ad (wt_xw X) 108)), none, some (.int s.1), some (.int s.2.1), some (.int s.2.2.1), none, none, none, none, none] []) {s : Int32 × Int32 × Int32 × wt_St} (h : wp_md_exchange_B43 n K43 s = some res) : wt_V X 0 s.2.2.2 43 [some (.ref (wt_ad (wt_xw X) 108)), none, some (.int s.1), some (.int s.2.1), some (.int s.2.2.1), none, none, none, none, none] [] := by
  unfold wp_md_exchange_B43 at h
  refine wt_iload hE wp_md_exchange_d43 rfl ?_
  refine wt_bipush hE (26 : Int32) wp_md_exchange_d45 wt_cb_26 ?_
  refine wt_icmp_ge hE 285 wp_md_exchange_d47 rfl (fun c7 => ?_) (fun c7 => ?_)
  · have h := wt_ip c7 h
    refine wt_iload_n hE wp_md_exchange_d285 rfl ?_
    cases h
    exact wt_iret hE hR wp_md_exchange_d286
  · have h := wt_in c7 h
    refine wt_iconst hE (-1 : Int32) wp_md_exchange_d50 wt_ci_m1 ?_
    refine wt_istore hE [some (.ref (wt_ad (wt_xw X) 108)), none, some (.int s.1), some (.int s.2.1), some (.int s.2.2.1), some (.int (-1 : Int32)), none, none, none, none] wp_md_exchange_d51 (Nat.le_of_ble_eq_true rfl) rfl ?_
    refine wt_iconst hE (0 : Int32) wp_md_exchange_d53 wt_ci_0 ?_
    refine wt_istore hE [some (.ref (wt_ad (wt_xw X) 108)), none, some (.int s.1), some (.int s.2.1), some (.int s.2.2.1), some (.int (-1 : Int32)), some (.int (0 : Int32)), none, none, none] wp_md_exchange_d54 (Nat.le_of_ble_eq_true rfl) rfl ?_
    exact wt_it_ind (fun z => wt_V X 0 z.2.2 56 [some (.ref (wt_ad (wt_xw X) 108)), none, some (.int s.1), some (.int s.2.1), some (.int s.2.2.1), some (.int z.1), some (.int z.2.1), none, none, none] []) (fun K hK z h => wp_md_exchange_B56_ok hE hR hD hK43 hK h) n ((-1 : Int32), (0 : Int32), s.2.2.2) h
noncomputable def wp_md_exchange_B19 (n : Nat) (x1 : Int32) (y1 : Int32) (σ : wt_St) : Option (Int32 × wt_St) :=
  (wp_md_bad n y1 (1 : Int32) σ).bind fun q3 =>
  if q3.1 = 0 then
    (wp_md_needsText n x1 q3.2).bind fun q5 =>
    (wp_md_often n q5).bind fun q6 =>
    wt_it (wp_md_exchange_B43 n) n (q6.1, (-1 : Int32), (0 : Int32), q6.2)
  else
    some ((0 : Int32), q3.2)
set_option maxRecDepth 100000 in
set_option maxHeartbeats 4000000 in
theorem wp_md_exchange_B19_ok  {x1 : Int32} {X : wt_X} {n : Nat} {res : Int32 × wt_St} (hE : wt_Ok X prog_13_method_87_code 10 "WornTypeModel" 5 0) (hR : wt_Rt X (some .int) (some res.1) res.2) (hD : ∀ i, 108 ≤ i → i < 321 → wt_dom (wt_xw X) i)  {σ : wt_St} {y1 : Int32} (h : wp_md_exchange_B19 n x1 y1 σ = some res) : wt_V X 0 σ 19 [some (.ref (wt_ad (wt_xw X) 108)), some (.int x1), none, none, none, none, none, none, none, none] [.int y1, .ref (wt_ad (wt_xw X) 108)] := by
  unfold wp_md_exchange_B19 at h
  refine wt_iconst hE (1 : Int32) wp_md_exchange_d19 wt_ci_1 ?_
  obtain ⟨q3, hq3, h⟩ := wt_bi h
  refine wt_callVi hE [.int y1, .int (1 : Int32)] wt_lm_md_230 wt_ya_md_bad (wp_md_bad_ok hD hq3) (by omega) (hD 108 (by decide) (by decide)) wt_L108 rfl rfl rfl (Nat.le_of_ble_eq_true rfl) (Nat.zero_le _) wp_md_exchange_d20 (fun hbq3 => ?_)
  refine wt_if_eq hE 28 wp_md_exchange_d23 rfl (fun c4 => ?_) (fun c4 => ?_)
  · have h := wt_ip c4 h
    refine wt_aload_n hE wp_md_exchange_d28 rfl ?_
    refine wt_iload_n hE wp_md_exchange_d29 rfl ?_
    obtain ⟨q5, hq5, h⟩ := wt_bi h
    refine wt_callVv hE [.int x1] wt_lm_md_310 wt_ya_md_needsText (wp_md_needsText_ok hD hq5) (by omega) (hD 108 (by decide) (by decide)) wt_L108 rfl rfl rfl (Nat.le_of_ble_eq_true rfl) (Nat.zero_le _) wp_md_exchange_d30 ?_
    refine wt_aload_n hE wp_md_exchange_d33 rfl ?_
    obtain ⟨q6, hq6, h⟩ := wt_bi h
    refine wt_callVi hE [] wt_lm_md_295 wt_ya_md_often (wp_md_often_ok hD hq6) (by omega) (hD 108 (by decide) (by decide)) wt_L108 rfl rfl rfl (Nat.le_of_ble_eq_true rfl) (Nat.zero_le _) wp_md_exchange_d34 (fun hbq6 => ?_)
    refine wt_istore_n hE [some (.ref (wt_ad (wt_xw X) 108)), some (.int x1), some (.int q6.1), none, none, none, none, none, none, none] wp_md_exchange_d37 (by decide) rfl ?_
    refine wt_iconst hE (-1 : Int32) wp_md_exchange_d38 wt_ci_m1 ?_
    refine wt_istore_n hE [some (.ref (wt_ad (wt_xw X) 108)), some (.int x1), some (.int q6.1), some (.int (-1 : Int32)), none, none, none, none, none, none] wp_md_exchange_d39 (by decide) rfl ?_
    refine wt_iconst hE (0 : Int32) wp_md_exchange_d40 wt_ci_0 ?_
    refine wt_istore hE [some (.ref (wt_ad (wt_xw X) 108)), some (.int x1), some (.int q6.1), some (.int (-1 : Int32)), some (.int (0 : Int32)), none, none, none, none, none] wp_md_exchange_d41 (Nat.le_of_ble_eq_true rfl) rfl ?_
    refine wt_wk [true, false, true, true, true, true, true, true, true, true] rfl ?_
    exact wt_it_ind (fun z => wt_V X 0 z.2.2.2 43 [some (.ref (wt_ad (wt_xw X) 108)), none, some (.int z.1), some (.int z.2.1), some (.int z.2.2.1), none, none, none, none, none] []) (fun K hK z h => wp_md_exchange_B43_ok hE hR hD hK h) n (q6.1, (-1 : Int32), (0 : Int32), q6.2) h
  · have h := wt_in c4 h
    refine wt_iconst hE (0 : Int32) wp_md_exchange_d26 wt_ci_0 ?_
    cases h
    exact wt_iret hE hR wp_md_exchange_d27
noncomputable def wp_md_exchange (n : Nat) (x1 : Int32) (σ : wt_St) : Option (Int32 × wt_St) :=
  (wp_md_isText n x1 (wt_sf σ 108 0 (0 : Int32))).bind fun q1 =>
  if q1.1 = 0 then
    wp_md_exchange_B19 n x1 (1 : Int32) q1.2
  else
    wp_md_exchange_B19 n x1 (0 : Int32) q1.2
set_option maxRecDepth 100000 in
set_option maxHeartbeats 4000000 in
theorem wp_md_exchange_ok {l : Launch} {w : wt_E} {n : Nat} {x1 : Int32} (hD : ∀ i, 108 ≤ i → i < 321 → wt_dom w i) {σ : wt_St} {q : Int32 × wt_St} (h : wp_md_exchange n x1 σ = some q) : wt_Ctr l w wt_y_md_exchange prog_13_method_87_code 10 (some .int) 5 [.ref (wt_ad w 108), .int x1] σ (some q.1) q.2 := by
  refine wt_ctr wt_pl_md_exchange rfl (Nat.le_of_ble_eq_true rfl) [some (.ref (wt_ad w 108)), some (.int x1), none, none, none, none, none, none, none, none] rfl ?_
  intro X hXl hXw hE hR
  subst hXl
  subst hXw
  have hE : wt_Ok X prog_13_method_87_code 10 "WornTypeModel" 5 0 := hE
  unfold wp_md_exchange at h
  refine wt_aload_n hE wp_md_exchange_d0 rfl ?_
  refine wt_iconst hE (0 : Int32) wp_md_exchange_d1 wt_ci_0 ?_
  refine wt_puti hE wt_lf_md_151 (hD 108 (by decide) (by decide)) wt_L108 rfl (fun q hq => by cases hq; rfl) wp_md_exchange_d2 ?_
  refine wt_aload_n hE wp_md_exchange_d5 rfl ?_
  refine wt_aload_n hE wp_md_exchange_d6 rfl ?_
  refine wt_iload_n hE wp_md_exchange_d7 rfl ?_
  obtain ⟨q1, hq1, h⟩ := wt_bi h
  refine wt_callVi hE [.int x1] wt_lm_md_307 wt_ya_md_isText (wp_md_isText_ok hD hq1) (by omega) (hD 108 (by decide) (by decide)) wt_L108 rfl rfl rfl (Nat.le_of_ble_eq_true rfl) (Nat.zero_le _) wp_md_exchange_d8 (fun hbq1 => ?_)
  refine wt_if_ne hE 18 wp_md_exchange_d11 rfl (fun c2 => ?_) (fun c2 => ?_)
  · have h := wt_in c2 h
    refine wt_iconst hE (0 : Int32) wp_md_exchange_d18 wt_ci_0 ?_
    exact wp_md_exchange_B19_ok hE hR hD h
  · have h := wt_ip c2 h
    refine wt_iconst hE (1 : Int32) wp_md_exchange_d14 wt_ci_1 ?_
    refine wt_goto hE 19 wp_md_exchange_d15 rfl ?_
    exact wp_md_exchange_B19_ok hE hR hD h
def wb16m6_prog_13_method_29_code_r0 : List (List Nat) := [42, 3, 181, 0, 151, 42, 180, 0, 9, 172] :: []
set_option maxRecDepth 100000 in
theorem wb16m6_prog_13_method_29_code_c0 : wt_cs prog_13_method_29_code 0 wb16m6_prog_13_method_29_code_r0 := wt_cs_of (by decide +kernel)
theorem wp_md_fault_d0 : decode prog_13_method_29_code 0 = .ok (.aload_n 0, 1) := wt_op42 wb16m6_prog_13_method_29_code_c0 0 rfl rfl
theorem wp_md_fault_d1 : decode prog_13_method_29_code 1 = .ok (.iconst 0, 1) := wt_op3 wb16m6_prog_13_method_29_code_c0 1 rfl rfl
theorem wp_md_fault_d2 : decode prog_13_method_29_code 2 = .ok (.putfield 151, 3) := wt_op181 wb16m6_prog_13_method_29_code_c0 2 rfl rfl rfl
theorem wp_md_fault_d5 : decode prog_13_method_29_code 5 = .ok (.aload_n 0, 1) := wt_op42 wb16m6_prog_13_method_29_code_c0 5 rfl rfl
theorem wp_md_fault_d6 : decode prog_13_method_29_code 6 = .ok (.getfield 9, 3) := wt_op180 wb16m6_prog_13_method_29_code_c0 6 rfl rfl rfl
theorem wp_md_fault_d9 : decode prog_13_method_29_code 9 = .ok (.ireturn, 1) := wt_op172 wb16m6_prog_13_method_29_code_c0 9 rfl rfl
noncomputable def wp_md_fault (n : Nat) (σ : wt_St) : Option (Int32 × wt_St) :=
  some ((wt_gf (wt_sf σ 108 0 (0 : Int32)) 108 3), (wt_sf σ 108 0 (0 : Int32)))
set_option maxRecDepth 100000 in
set_option maxHeartbeats 4000000 in
theorem wp_md_fault_ok {l : Launch} {w : wt_E} {n : Nat} (hD : ∀ i, 108 ≤ i → i < 321 → wt_dom w i) {σ : wt_St} {q : Int32 × wt_St} (h : wp_md_fault n σ = some q) : wt_Ctr l w wt_y_md_fault prog_13_method_29_code 1 (some .int) 0 [.ref (wt_ad w 108)] σ (some q.1) q.2 := by
  refine wt_ctr wt_pl_md_fault rfl (Nat.le_of_ble_eq_true rfl) [some (.ref (wt_ad w 108))] rfl ?_
  intro X hXl hXw hE hR
  subst hXl
  subst hXw
  have hE : wt_Ok X prog_13_method_29_code 1 "WornTypeModel" 0 0 := hE
  unfold wp_md_fault at h
  refine wt_aload_n hE wp_md_fault_d0 rfl ?_
  refine wt_iconst hE (0 : Int32) wp_md_fault_d1 wt_ci_0 ?_
  refine wt_puti hE wt_lf_md_151 (hD 108 (by decide) (by decide)) wt_L108 rfl (fun q hq => by cases hq; rfl) wp_md_fault_d2 ?_
  refine wt_aload_n hE wp_md_fault_d5 rfl ?_
  refine wt_geti hE wt_lf_md_9 (hD 108 (by decide) (by decide)) wt_L108 rfl wp_md_fault_d6 ?_
  cases h
  exact wt_iret hE hR wp_md_fault_d9
def wb16m6_prog_13_method_5_code_r4 : List (List Nat) := [132, 6, 1, 167, 255, 162, 42, 180, 0, 154, 172] :: []
def wb16m6_prog_13_method_5_code_r3 : List (List Nat) := [21, 7, 16, 24, 16, 8, 21, 6, 7, 112, 104, 100, 122, 17, 0, 255, 126, 79, 42, 89, 180, 0, 154, 4, 96, 181, 0, 154] :: wb16m6_prog_13_method_5_code_r4
def wb16m6_prog_13_method_5_code_r2 : List (List Nat) := [29, 167, 0, 17, 21, 6, 16, 16, 162, 0, 8, 21, 4, 167, 0, 5, 21, 5, 54, 7, 42, 180, 0, 13, 42, 180, 0, 154] :: wb16m6_prog_13_method_5_code_r3
def wb16m6_prog_13_method_5_code_r1 : List (List Nat) := [21, 6, 7, 162, 0, 7, 27, 167, 0, 39, 21, 6, 16, 8, 162, 0, 7, 28, 167, 0, 28, 21, 6, 16, 12, 162, 0, 7] :: wb16m6_prog_13_method_5_code_r2
def wb16m6_prog_13_method_5_code_r0 : List (List Nat) := [42, 3, 181, 0, 151, 42, 180, 0, 154, 16, 20, 96, 17, 1, 244, 164, 0, 5, 2, 172, 3, 54, 6, 21, 6, 16, 20, 162, 0, 93] :: wb16m6_prog_13_method_5_code_r1
set_option maxRecDepth 100000 in
theorem wb16m6_prog_13_method_5_code_c0 : wt_cs prog_13_method_5_code 0 wb16m6_prog_13_method_5_code_r0 := wt_cs_of (by decide +kernel)
theorem wb16m6_prog_13_method_5_code_c1 : wt_cs prog_13_method_5_code 30 wb16m6_prog_13_method_5_code_r1 := wt_cs_tl (m := 30) wb16m6_prog_13_method_5_code_c0 rfl rfl
theorem wb16m6_prog_13_method_5_code_c2 : wt_cs prog_13_method_5_code 58 wb16m6_prog_13_method_5_code_r2 := wt_cs_tl (m := 28) wb16m6_prog_13_method_5_code_c1 rfl rfl
theorem wb16m6_prog_13_method_5_code_c3 : wt_cs prog_13_method_5_code 86 wb16m6_prog_13_method_5_code_r3 := wt_cs_tl (m := 28) wb16m6_prog_13_method_5_code_c2 rfl rfl
theorem wb16m6_prog_13_method_5_code_c4 : wt_cs prog_13_method_5_code 114 wb16m6_prog_13_method_5_code_r4 := wt_cs_tl (m := 28) wb16m6_prog_13_method_5_code_c3 rfl rfl
theorem wp_md_feed_d0 : decode prog_13_method_5_code 0 = .ok (.aload_n 0, 1) := wt_op42 wb16m6_prog_13_method_5_code_c0 0 rfl rfl
theorem wp_md_feed_d1 : decode prog_13_method_5_code 1 = .ok (.iconst 0, 1) := wt_op3 wb16m6_prog_13_method_5_code_c0 1 rfl rfl
theorem wp_md_feed_d2 : decode prog_13_method_5_code 2 = .ok (.putfield 151, 3) := wt_op181 wb16m6_prog_13_method_5_code_c0 2 rfl rfl rfl
theorem wp_md_feed_d5 : decode prog_13_method_5_code 5 = .ok (.aload_n 0, 1) := wt_op42 wb16m6_prog_13_method_5_code_c0 5 rfl rfl
theorem wp_md_feed_d6 : decode prog_13_method_5_code 6 = .ok (.getfield 154, 3) := wt_op180 wb16m6_prog_13_method_5_code_c0 6 rfl rfl rfl
theorem wp_md_feed_d9 : decode prog_13_method_5_code 9 = .ok (.bipush 20, 2) := wt_op16 wb16m6_prog_13_method_5_code_c0 9 rfl rfl rfl
theorem wp_md_feed_d11 : decode prog_13_method_5_code 11 = .ok (.iadd, 1) := wt_op96 wb16m6_prog_13_method_5_code_c0 11 rfl rfl
theorem wp_md_feed_d12 : decode prog_13_method_5_code 12 = .ok (.sipush 500, 3) := wt_op17 wb16m6_prog_13_method_5_code_c0 12 rfl rfl rfl
theorem wp_md_feed_d15 : decode prog_13_method_5_code 15 = .ok (.if_icmp .le 5, 3) := wt_op164 wb16m6_prog_13_method_5_code_c0 15 rfl rfl rfl
theorem wp_md_feed_d18 : decode prog_13_method_5_code 18 = .ok (.iconst (-1), 1) := wt_op2 wb16m6_prog_13_method_5_code_c0 18 rfl rfl
theorem wp_md_feed_d19 : decode prog_13_method_5_code 19 = .ok (.ireturn, 1) := wt_op172 wb16m6_prog_13_method_5_code_c0 19 rfl rfl
theorem wp_md_feed_d20 : decode prog_13_method_5_code 20 = .ok (.iconst 0, 1) := wt_op3 wb16m6_prog_13_method_5_code_c0 20 rfl rfl
theorem wp_md_feed_d21 : decode prog_13_method_5_code 21 = .ok (.istore 6, 2) := wt_op54 wb16m6_prog_13_method_5_code_c0 21 rfl rfl
theorem wp_md_feed_d23 : decode prog_13_method_5_code 23 = .ok (.iload 6, 2) := wt_op21 wb16m6_prog_13_method_5_code_c0 23 rfl rfl
theorem wp_md_feed_d25 : decode prog_13_method_5_code 25 = .ok (.bipush 20, 2) := wt_op16 wb16m6_prog_13_method_5_code_c0 25 rfl rfl rfl
theorem wp_md_feed_d27 : decode prog_13_method_5_code 27 = .ok (.if_icmp .ge 93, 3) := wt_op162 wb16m6_prog_13_method_5_code_c0 27 rfl rfl rfl
theorem wp_md_feed_d30 : decode prog_13_method_5_code 30 = .ok (.iload 6, 2) := wt_op21 wb16m6_prog_13_method_5_code_c1 0 rfl rfl
theorem wp_md_feed_d32 : decode prog_13_method_5_code 32 = .ok (.iconst 4, 1) := wt_op7 wb16m6_prog_13_method_5_code_c1 2 rfl rfl
theorem wp_md_feed_d33 : decode prog_13_method_5_code 33 = .ok (.if_icmp .ge 7, 3) := wt_op162 wb16m6_prog_13_method_5_code_c1 3 rfl rfl rfl
theorem wp_md_feed_d36 : decode prog_13_method_5_code 36 = .ok (.iload_n 1, 1) := wt_op27 wb16m6_prog_13_method_5_code_c1 6 rfl rfl
theorem wp_md_feed_d37 : decode prog_13_method_5_code 37 = .ok (.goto 39, 3) := wt_op167 wb16m6_prog_13_method_5_code_c1 7 rfl rfl rfl
theorem wp_md_feed_d40 : decode prog_13_method_5_code 40 = .ok (.iload 6, 2) := wt_op21 wb16m6_prog_13_method_5_code_c1 10 rfl rfl
theorem wp_md_feed_d42 : decode prog_13_method_5_code 42 = .ok (.bipush 8, 2) := wt_op16 wb16m6_prog_13_method_5_code_c1 12 rfl rfl rfl
theorem wp_md_feed_d44 : decode prog_13_method_5_code 44 = .ok (.if_icmp .ge 7, 3) := wt_op162 wb16m6_prog_13_method_5_code_c1 14 rfl rfl rfl
theorem wp_md_feed_d47 : decode prog_13_method_5_code 47 = .ok (.iload_n 2, 1) := wt_op28 wb16m6_prog_13_method_5_code_c1 17 rfl rfl
theorem wp_md_feed_d48 : decode prog_13_method_5_code 48 = .ok (.goto 28, 3) := wt_op167 wb16m6_prog_13_method_5_code_c1 18 rfl rfl rfl
theorem wp_md_feed_d51 : decode prog_13_method_5_code 51 = .ok (.iload 6, 2) := wt_op21 wb16m6_prog_13_method_5_code_c1 21 rfl rfl
theorem wp_md_feed_d53 : decode prog_13_method_5_code 53 = .ok (.bipush 12, 2) := wt_op16 wb16m6_prog_13_method_5_code_c1 23 rfl rfl rfl
theorem wp_md_feed_d55 : decode prog_13_method_5_code 55 = .ok (.if_icmp .ge 7, 3) := wt_op162 wb16m6_prog_13_method_5_code_c1 25 rfl rfl rfl
theorem wp_md_feed_d58 : decode prog_13_method_5_code 58 = .ok (.iload_n 3, 1) := wt_op29 wb16m6_prog_13_method_5_code_c2 0 rfl rfl
theorem wp_md_feed_d59 : decode prog_13_method_5_code 59 = .ok (.goto 17, 3) := wt_op167 wb16m6_prog_13_method_5_code_c2 1 rfl rfl rfl
theorem wp_md_feed_d62 : decode prog_13_method_5_code 62 = .ok (.iload 6, 2) := wt_op21 wb16m6_prog_13_method_5_code_c2 4 rfl rfl
theorem wp_md_feed_d64 : decode prog_13_method_5_code 64 = .ok (.bipush 16, 2) := wt_op16 wb16m6_prog_13_method_5_code_c2 6 rfl rfl rfl
theorem wp_md_feed_d66 : decode prog_13_method_5_code 66 = .ok (.if_icmp .ge 8, 3) := wt_op162 wb16m6_prog_13_method_5_code_c2 8 rfl rfl rfl
theorem wp_md_feed_d69 : decode prog_13_method_5_code 69 = .ok (.iload 4, 2) := wt_op21 wb16m6_prog_13_method_5_code_c2 11 rfl rfl
theorem wp_md_feed_d71 : decode prog_13_method_5_code 71 = .ok (.goto 5, 3) := wt_op167 wb16m6_prog_13_method_5_code_c2 13 rfl rfl rfl
theorem wp_md_feed_d74 : decode prog_13_method_5_code 74 = .ok (.iload 5, 2) := wt_op21 wb16m6_prog_13_method_5_code_c2 16 rfl rfl
theorem wp_md_feed_d76 : decode prog_13_method_5_code 76 = .ok (.istore 7, 2) := wt_op54 wb16m6_prog_13_method_5_code_c2 18 rfl rfl
theorem wp_md_feed_d78 : decode prog_13_method_5_code 78 = .ok (.aload_n 0, 1) := wt_op42 wb16m6_prog_13_method_5_code_c2 20 rfl rfl
theorem wp_md_feed_d79 : decode prog_13_method_5_code 79 = .ok (.getfield 13, 3) := wt_op180 wb16m6_prog_13_method_5_code_c2 21 rfl rfl rfl
theorem wp_md_feed_d82 : decode prog_13_method_5_code 82 = .ok (.aload_n 0, 1) := wt_op42 wb16m6_prog_13_method_5_code_c2 24 rfl rfl
theorem wp_md_feed_d83 : decode prog_13_method_5_code 83 = .ok (.getfield 154, 3) := wt_op180 wb16m6_prog_13_method_5_code_c2 25 rfl rfl rfl
theorem wp_md_feed_d86 : decode prog_13_method_5_code 86 = .ok (.iload 7, 2) := wt_op21 wb16m6_prog_13_method_5_code_c3 0 rfl rfl
theorem wp_md_feed_d88 : decode prog_13_method_5_code 88 = .ok (.bipush 24, 2) := wt_op16 wb16m6_prog_13_method_5_code_c3 2 rfl rfl rfl
theorem wp_md_feed_d90 : decode prog_13_method_5_code 90 = .ok (.bipush 8, 2) := wt_op16 wb16m6_prog_13_method_5_code_c3 4 rfl rfl rfl
theorem wp_md_feed_d92 : decode prog_13_method_5_code 92 = .ok (.iload 6, 2) := wt_op21 wb16m6_prog_13_method_5_code_c3 6 rfl rfl
theorem wp_md_feed_d94 : decode prog_13_method_5_code 94 = .ok (.iconst 4, 1) := wt_op7 wb16m6_prog_13_method_5_code_c3 8 rfl rfl
theorem wp_md_feed_d95 : decode prog_13_method_5_code 95 = .ok (.irem, 1) := wt_op112 wb16m6_prog_13_method_5_code_c3 9 rfl rfl
theorem wp_md_feed_d96 : decode prog_13_method_5_code 96 = .ok (.imul, 1) := wt_op104 wb16m6_prog_13_method_5_code_c3 10 rfl rfl
theorem wp_md_feed_d97 : decode prog_13_method_5_code 97 = .ok (.isub, 1) := wt_op100 wb16m6_prog_13_method_5_code_c3 11 rfl rfl
theorem wp_md_feed_d98 : decode prog_13_method_5_code 98 = .ok (.ishr, 1) := wt_op122 wb16m6_prog_13_method_5_code_c3 12 rfl rfl
theorem wp_md_feed_d99 : decode prog_13_method_5_code 99 = .ok (.sipush 255, 3) := wt_op17 wb16m6_prog_13_method_5_code_c3 13 rfl rfl rfl
theorem wp_md_feed_d102 : decode prog_13_method_5_code 102 = .ok (.iand, 1) := wt_op126 wb16m6_prog_13_method_5_code_c3 16 rfl rfl
theorem wp_md_feed_d103 : decode prog_13_method_5_code 103 = .ok (.iastore, 1) := wt_op79 wb16m6_prog_13_method_5_code_c3 17 rfl rfl
theorem wp_md_feed_d104 : decode prog_13_method_5_code 104 = .ok (.aload_n 0, 1) := wt_op42 wb16m6_prog_13_method_5_code_c3 18 rfl rfl
theorem wp_md_feed_d105 : decode prog_13_method_5_code 105 = .ok (.dup, 1) := wt_op89 wb16m6_prog_13_method_5_code_c3 19 rfl rfl
theorem wp_md_feed_d106 : decode prog_13_method_5_code 106 = .ok (.getfield 154, 3) := wt_op180 wb16m6_prog_13_method_5_code_c3 20 rfl rfl rfl
theorem wp_md_feed_d109 : decode prog_13_method_5_code 109 = .ok (.iconst 1, 1) := wt_op4 wb16m6_prog_13_method_5_code_c3 23 rfl rfl
theorem wp_md_feed_d110 : decode prog_13_method_5_code 110 = .ok (.iadd, 1) := wt_op96 wb16m6_prog_13_method_5_code_c3 24 rfl rfl
theorem wp_md_feed_d111 : decode prog_13_method_5_code 111 = .ok (.putfield 154, 3) := wt_op181 wb16m6_prog_13_method_5_code_c3 25 rfl rfl rfl
theorem wp_md_feed_d114 : decode prog_13_method_5_code 114 = .ok (.iinc 6 1, 3) := wt_op132 wb16m6_prog_13_method_5_code_c4 0 rfl rfl rfl
theorem wp_md_feed_d117 : decode prog_13_method_5_code 117 = .ok (.goto (-94), 3) := wt_op167 wb16m6_prog_13_method_5_code_c4 3 rfl rfl rfl
theorem wp_md_feed_d120 : decode prog_13_method_5_code 120 = .ok (.aload_n 0, 1) := wt_op42 wb16m6_prog_13_method_5_code_c4 6 rfl rfl
theorem wp_md_feed_d121 : decode prog_13_method_5_code 121 = .ok (.getfield 154, 3) := wt_op180 wb16m6_prog_13_method_5_code_c4 7 rfl rfl rfl
theorem wp_md_feed_d124 : decode prog_13_method_5_code 124 = .ok (.ireturn, 1) := wt_op172 wb16m6_prog_13_method_5_code_c4 10 rfl rfl
noncomputable def wp_md_feed_B76 (n : Nat) (x1 : Int32) (x2 : Int32) (x3 : Int32) (x4 : Int32) (x5 : Int32) (x6 : Int32) (K23 : Int32 × wt_St → Option (Int32 × wt_St)) (y0 : Int32) (σ : wt_St) : Option (Int32 × wt_St) :=
  if (wt_gf σ 108 1) < 0 ∨ 500 ≤ Int32.toNatClampNeg (wt_gf σ 108 1) then none else
  K23 ((x6 + (1 : Int32)), (wt_sf (wt_sa σ 109 (Int32.toNatClampNeg (wt_gf σ 108 1)) ((y0 >>> (((24 : Int32) - ((8 : Int32) * (wt_rem x6 (4 : Int32)))) &&& 31)) &&& (255 : Int32))) 108 1 ((wt_gf (wt_sa σ 109 (Int32.toNatClampNeg (wt_gf σ 108 1)) ((y0 >>> (((24 : Int32) - ((8 : Int32) * (wt_rem x6 (4 : Int32)))) &&& 31)) &&& (255 : Int32))) 108 1) + (1 : Int32))))
set_option maxRecDepth 100000 in
set_option maxHeartbeats 4000000 in
theorem wp_md_feed_B76_ok  {x1 : Int32} {x2 : Int32} {x3 : Int32} {x4 : Int32} {x5 : Int32} {x6 : Int32} {X : wt_X} {n : Nat} {res : Int32 × wt_St} (hE : wt_Ok X prog_13_method_5_code 8 "WornTypeModel" 0 0) (hR : wt_Rt X (some .int) (some res.1) res.2) (hD : ∀ i, 108 ≤ i → i < 321 → wt_dom (wt_xw X) i)  {K23 : Int32 × wt_St → Option (Int32 × wt_St)} (hK23 : ∀ s : Int32 × wt_St, K23 s = some res → wt_V X 0 s.2 23 [some (.ref (wt_ad (wt_xw X) 108)), some (.int x1), some (.int x2), some (.int x3), some (.int x4), some (.int x5), some (.int s.1), none] []) {σ : wt_St} {y0 : Int32} (h : wp_md_feed_B76 n x1 x2 x3 x4 x5 x6 K23 y0 σ = some res) : wt_V X 0 σ 76 [some (.ref (wt_ad (wt_xw X) 108)), some (.int x1), some (.int x2), some (.int x3), some (.int x4), some (.int x5), some (.int x6), none] [.int y0] := by
  unfold wp_md_feed_B76 at h
  refine wt_istore hE [some (.ref (wt_ad (wt_xw X) 108)), some (.int x1), some (.int x2), some (.int x3), some (.int x4), some (.int x5), some (.int x6), some (.int y0)] wp_md_feed_d76 (Nat.le_of_ble_eq_true rfl) rfl ?_
  refine wt_aload_n hE wp_md_feed_d78 rfl ?_
  refine wt_getr hE (r := 109) wt_lf_md_13 (hD 108 (by decide) (by decide)) wt_L108 rfl wp_md_feed_d79 ?_
  refine wt_aload_n hE wp_md_feed_d82 rfl ?_
  refine wt_geti hE wt_lf_md_154 (hD 108 (by decide) (by decide)) wt_L108 rfl wp_md_feed_d83 ?_
  refine wt_iload hE wp_md_feed_d86 rfl ?_
  refine wt_bipush hE (24 : Int32) wp_md_feed_d88 wt_cb_24 ?_
  refine wt_bipush hE (8 : Int32) wp_md_feed_d90 wt_cb_8 ?_
  refine wt_iload hE wp_md_feed_d92 rfl ?_
  refine wt_iconst hE (4 : Int32) wp_md_feed_d94 wt_ci_4 ?_
  refine wt_irem hE wp_md_feed_d95 (by decide) ?_
  refine wt_imul hE wp_md_feed_d96 ?_
  refine wt_isub hE wp_md_feed_d97 ?_
  refine wt_ishr hE wp_md_feed_d98 ?_
  refine wt_sipush hE (255 : Int32) wp_md_feed_d99 wt_cs_255 ?_
  refine wt_iand hE wp_md_feed_d102 ?_
  obtain ⟨g7, h⟩ := wt_gd h
  refine wt_iast hE (hD 109 (by decide) (by decide)) wt_L109 g7 wp_md_feed_d103 ?_
  refine wt_aload_n hE wp_md_feed_d104 rfl ?_
  refine wt_dup hE wp_md_feed_d105 rfl ?_
  refine wt_geti hE wt_lf_md_154 (hD 108 (by decide) (by decide)) wt_L108 rfl wp_md_feed_d106 ?_
  refine wt_iconst hE (1 : Int32) wp_md_feed_d109 wt_ci_1 ?_
  refine wt_iadd hE wp_md_feed_d110 ?_
  refine wt_puti hE wt_lf_md_154 (hD 108 (by decide) (by decide)) wt_L108 rfl (fun q hq => by cases hq; rfl) wp_md_feed_d111 ?_
  refine wt_iinc hE (x6 + (1 : Int32)) [some (.ref (wt_ad (wt_xw X) 108)), some (.int x1), some (.int x2), some (.int x3), some (.int x4), some (.int x5), some (.int (x6 + (1 : Int32))), some (.int y0)] wp_md_feed_d114 (by decide) rfl rfl rfl ?_
  refine wt_goto hE 23 wp_md_feed_d117 rfl ?_
  refine wt_wk [true, true, true, true, true, true, true, false] rfl ?_
  exact hK23 ((x6 + (1 : Int32)), (wt_sf (wt_sa σ 109 (Int32.toNatClampNeg (wt_gf σ 108 1)) ((y0 >>> (((24 : Int32) - ((8 : Int32) * (wt_rem x6 (4 : Int32)))) &&& 31)) &&& (255 : Int32))) 108 1 ((wt_gf (wt_sa σ 109 (Int32.toNatClampNeg (wt_gf σ 108 1)) ((y0 >>> (((24 : Int32) - ((8 : Int32) * (wt_rem x6 (4 : Int32)))) &&& 31)) &&& (255 : Int32))) 108 1) + (1 : Int32)))) h
noncomputable def wp_md_feed_B23 (n : Nat) (x1 : Int32) (x2 : Int32) (x3 : Int32) (x4 : Int32) (x5 : Int32) (K23 : Int32 × wt_St → Option (Int32 × wt_St)) (s : Int32 × wt_St) : Option (Int32 × wt_St) :=
  if (20 : Int32) ≤ s.1 then
    some ((wt_gf s.2 108 1), s.2)
  else
    if (4 : Int32) ≤ s.1 then
      if (8 : Int32) ≤ s.1 then
        if (12 : Int32) ≤ s.1 then
          if (16 : Int32) ≤ s.1 then
            wp_md_feed_B76 n x1 x2 x3 x4 x5 s.1 K23 x5 s.2
          else
            wp_md_feed_B76 n x1 x2 x3 x4 x5 s.1 K23 x4 s.2
        else
          wp_md_feed_B76 n x1 x2 x3 x4 x5 s.1 K23 x3 s.2
      else
        wp_md_feed_B76 n x1 x2 x3 x4 x5 s.1 K23 x2 s.2
    else
      wp_md_feed_B76 n x1 x2 x3 x4 x5 s.1 K23 x1 s.2
set_option maxRecDepth 100000 in
set_option maxHeartbeats 4000000 in
theorem wp_md_feed_B23_ok  {x1 : Int32} {x2 : Int32} {x3 : Int32} {x4 : Int32} {x5 : Int32} {X : wt_X} {n : Nat} {res : Int32 × wt_St} (hE : wt_Ok X prog_13_method_5_code 8 "WornTypeModel" 0 0) (hR : wt_Rt X (some .int) (some res.1) res.2) (hD : ∀ i, 108 ≤ i → i < 321 → wt_dom (wt_xw X) i)  {K23 : Int32 × wt_St → Option (Int32 × wt_St)} (hK23 : ∀ s : Int32 × wt_St, K23 s = some res → wt_V X 0 s.2 23 [some (.ref (wt_ad (wt_xw X) 108)), some (.int x1), some (.int x2), some (.int x3), some (.int x4), some (.int x5), some (.int s.1), none] []) {s : Int32 × wt_St} (h : wp_md_feed_B23 n x1 x2 x3 x4 x5 K23 s = some res) : wt_V X 0 s.2 23 [some (.ref (wt_ad (wt_xw X) 108)), some (.int x1), some (.int x2), some (.int x3), some (.int x4), some (.int x5), some (.int s.1), none] [] := by
  unfold wp_md_feed_B23 at h
  refine wt_iload hE wp_md_feed_d23 rfl ?_
  refine wt_bipush hE (20 : Int32) wp_md_feed_d25 wt_cb_20 ?_
  refine wt_icmp_ge hE 120 wp_md_feed_d27 rfl (fun c2 => ?_) (fun c2 => ?_)
  · have h := wt_ip c2 h
    refine wt_aload_n hE wp_md_feed_d120 rfl ?_
    refine wt_geti hE wt_lf_md_154 (hD 108 (by decide) (by decide)) wt_L108 rfl wp_md_feed_d121 ?_
    cases h
    exact wt_iret hE hR wp_md_feed_d124
  · have h := wt_in c2 h
    refine wt_iload hE wp_md_feed_d30 rfl ?_
    refine wt_iconst hE (4 : Int32) wp_md_feed_d32 wt_ci_4 ?_
    refine wt_icmp_ge hE 40 wp_md_feed_d33 rfl (fun c3 => ?_) (fun c3 => ?_)
    · have h := wt_ip c3 h
      refine wt_iload hE wp_md_feed_d40 rfl ?_
      refine wt_bipush hE (8 : Int32) wp_md_feed_d42 wt_cb_8 ?_
      refine wt_icmp_ge hE 51 wp_md_feed_d44 rfl (fun c4 => ?_) (fun c4 => ?_)
      · have h := wt_ip c4 h
        refine wt_iload hE wp_md_feed_d51 rfl ?_
        refine wt_bipush hE (12 : Int32) wp_md_feed_d53 wt_cb_12 ?_
        refine wt_icmp_ge hE 62 wp_md_feed_d55 rfl (fun c5 => ?_) (fun c5 => ?_)
        · have h := wt_ip c5 h
          refine wt_iload hE wp_md_feed_d62 rfl ?_
          refine wt_bipush hE (16 : Int32) wp_md_feed_d64 wt_cb_16 ?_
          refine wt_icmp_ge hE 74 wp_md_feed_d66 rfl (fun c6 => ?_) (fun c6 => ?_)
          · have h := wt_ip c6 h
            refine wt_iload hE wp_md_feed_d74 rfl ?_
            exact wp_md_feed_B76_ok hE hR hD hK23 h
          · have h := wt_in c6 h
            refine wt_iload hE wp_md_feed_d69 rfl ?_
            refine wt_goto hE 76 wp_md_feed_d71 rfl ?_
            exact wp_md_feed_B76_ok hE hR hD hK23 h
        · have h := wt_in c5 h
          refine wt_iload_n hE wp_md_feed_d58 rfl ?_
          refine wt_goto hE 76 wp_md_feed_d59 rfl ?_
          exact wp_md_feed_B76_ok hE hR hD hK23 h
      · have h := wt_in c4 h
        refine wt_iload_n hE wp_md_feed_d47 rfl ?_
        refine wt_goto hE 76 wp_md_feed_d48 rfl ?_
        exact wp_md_feed_B76_ok hE hR hD hK23 h
    · have h := wt_in c3 h
      refine wt_iload_n hE wp_md_feed_d36 rfl ?_
      refine wt_goto hE 76 wp_md_feed_d37 rfl ?_
      exact wp_md_feed_B76_ok hE hR hD hK23 h
noncomputable def wp_md_feed (n : Nat) (x1 : Int32) (x2 : Int32) (x3 : Int32) (x4 : Int32) (x5 : Int32) (σ : wt_St) : Option (Int32 × wt_St) :=
  if ((wt_gf (wt_sf σ 108 0 (0 : Int32)) 108 1) + (20 : Int32)) ≤ (500 : Int32) then
    wt_it (wp_md_feed_B23 n x1 x2 x3 x4 x5) n ((0 : Int32), (wt_sf σ 108 0 (0 : Int32)))
  else
    some ((-1 : Int32), (wt_sf σ 108 0 (0 : Int32)))
set_option maxRecDepth 100000 in
set_option maxHeartbeats 4000000 in
theorem wp_md_feed_ok {l : Launch} {w : wt_E} {n : Nat} {x1 : Int32} {x2 : Int32} {x3 : Int32} {x4 : Int32} {x5 : Int32} (hD : ∀ i, 108 ≤ i → i < 321 → wt_dom w i) {σ : wt_St} {q : Int32 × wt_St} (h : wp_md_feed n x1 x2 x3 x4 x5 σ = some q) : wt_Ctr l w wt_y_md_feed prog_13_method_5_code 8 (some .int) 0 [.ref (wt_ad w 108), .int x1, .int x2, .int x3, .int x4, .int x5] σ (some q.1) q.2 := by
  refine wt_ctr wt_pl_md_feed rfl (Nat.le_of_ble_eq_true rfl) [some (.ref (wt_ad w 108)), some (.int x1), some (.int x2), some (.int x3), some (.int x4), some (.int x5), none, none] rfl ?_
  intro X hXl hXw hE hR
  subst hXl
  subst hXw
  have hE : wt_Ok X prog_13_method_5_code 8 "WornTypeModel" 0 0 := hE
  unfold wp_md_feed at h
  refine wt_aload_n hE wp_md_feed_d0 rfl ?_
  refine wt_iconst hE (0 : Int32) wp_md_feed_d1 wt_ci_0 ?_
  refine wt_puti hE wt_lf_md_151 (hD 108 (by decide) (by decide)) wt_L108 rfl (fun q hq => by cases hq; rfl) wp_md_feed_d2 ?_
  refine wt_aload_n hE wp_md_feed_d5 rfl ?_
  refine wt_geti hE wt_lf_md_154 (hD 108 (by decide) (by decide)) wt_L108 rfl wp_md_feed_d6 ?_
  refine wt_bipush hE (20 : Int32) wp_md_feed_d9 wt_cb_20 ?_
  refine wt_iadd hE wp_md_feed_d11 ?_
  refine wt_sipush hE (500 : Int32) wp_md_feed_d12 wt_cs_500 ?_
  refine wt_icmp_le hE 20 wp_md_feed_d15 rfl (fun c1 => ?_) (fun c1 => ?_)
  · have h := wt_ip c1 h
    refine wt_iconst hE (0 : Int32) wp_md_feed_d20 wt_ci_0 ?_
    refine wt_istore hE [some (.ref (wt_ad (wt_xw X) 108)), some (.int x1), some (.int x2), some (.int x3), some (.int x4), some (.int x5), some (.int (0 : Int32)), none] wp_md_feed_d21 (Nat.le_of_ble_eq_true rfl) rfl ?_
    exact wt_it_ind (fun z => wt_V X 0 z.2 23 [some (.ref (wt_ad (wt_xw X) 108)), some (.int x1), some (.int x2), some (.int x3), some (.int x4), some (.int x5), some (.int z.1), none] []) (fun K hK z h => wp_md_feed_B23_ok hE hR hD hK h) n ((0 : Int32), (wt_sf σ 108 0 (0 : Int32))) h
  · have h := wt_in c1 h
    refine wt_iconst hE (-1 : Int32) wp_md_feed_d18 wt_ci_m1 ?_
    cases h
    exact wt_iret hE hR wp_md_feed_d19
def wb16m6_prog_13_method_65_code_r0 : List (List Nat) := [42, 180, 0, 77, 27, 46, 42, 180, 0, 77, 42, 180, 0, 91, 28, 50, 29, 46, 46, 160, 0, 7, 4, 167, 0, 4, 3, 172] :: []
set_option maxRecDepth 100000 in
theorem wb16m6_prog_13_method_65_code_c0 : wt_cs prog_13_method_65_code 0 wb16m6_prog_13_method_65_code_r0 := wt_cs_of (by decide +kernel)
theorem wp_md_isOf_d0 : decode prog_13_method_65_code 0 = .ok (.aload_n 0, 1) := wt_op42 wb16m6_prog_13_method_65_code_c0 0 rfl rfl
theorem wp_md_isOf_d1 : decode prog_13_method_65_code 1 = .ok (.getfield 77, 3) := wt_op180 wb16m6_prog_13_method_65_code_c0 1 rfl rfl rfl
theorem wp_md_isOf_d4 : decode prog_13_method_65_code 4 = .ok (.iload_n 1, 1) := wt_op27 wb16m6_prog_13_method_65_code_c0 4 rfl rfl
theorem wp_md_isOf_d5 : decode prog_13_method_65_code 5 = .ok (.iaload, 1) := wt_op46 wb16m6_prog_13_method_65_code_c0 5 rfl rfl
theorem wp_md_isOf_d6 : decode prog_13_method_65_code 6 = .ok (.aload_n 0, 1) := wt_op42 wb16m6_prog_13_method_65_code_c0 6 rfl rfl
theorem wp_md_isOf_d7 : decode prog_13_method_65_code 7 = .ok (.getfield 77, 3) := wt_op180 wb16m6_prog_13_method_65_code_c0 7 rfl rfl rfl
theorem wp_md_isOf_d10 : decode prog_13_method_65_code 10 = .ok (.aload_n 0, 1) := wt_op42 wb16m6_prog_13_method_65_code_c0 10 rfl rfl
theorem wp_md_isOf_d11 : decode prog_13_method_65_code 11 = .ok (.getfield 91, 3) := wt_op180 wb16m6_prog_13_method_65_code_c0 11 rfl rfl rfl
theorem wp_md_isOf_d14 : decode prog_13_method_65_code 14 = .ok (.iload_n 2, 1) := wt_op28 wb16m6_prog_13_method_65_code_c0 14 rfl rfl
theorem wp_md_isOf_d15 : decode prog_13_method_65_code 15 = .ok (.aaload, 1) := wt_op50 wb16m6_prog_13_method_65_code_c0 15 rfl rfl
theorem wp_md_isOf_d16 : decode prog_13_method_65_code 16 = .ok (.iload_n 3, 1) := wt_op29 wb16m6_prog_13_method_65_code_c0 16 rfl rfl
theorem wp_md_isOf_d17 : decode prog_13_method_65_code 17 = .ok (.iaload, 1) := wt_op46 wb16m6_prog_13_method_65_code_c0 17 rfl rfl
theorem wp_md_isOf_d18 : decode prog_13_method_65_code 18 = .ok (.iaload, 1) := wt_op46 wb16m6_prog_13_method_65_code_c0 18 rfl rfl
theorem wp_md_isOf_d19 : decode prog_13_method_65_code 19 = .ok (.if_icmp .ne 7, 3) := wt_op160 wb16m6_prog_13_method_65_code_c0 19 rfl rfl rfl
theorem wp_md_isOf_d22 : decode prog_13_method_65_code 22 = .ok (.iconst 1, 1) := wt_op4 wb16m6_prog_13_method_65_code_c0 22 rfl rfl
theorem wp_md_isOf_d23 : decode prog_13_method_65_code 23 = .ok (.goto 4, 3) := wt_op167 wb16m6_prog_13_method_65_code_c0 23 rfl rfl rfl
theorem wp_md_isOf_d26 : decode prog_13_method_65_code 26 = .ok (.iconst 0, 1) := wt_op3 wb16m6_prog_13_method_65_code_c0 26 rfl rfl
theorem wp_md_isOf_d27 : decode prog_13_method_65_code 27 = .ok (.ireturn, 1) := wt_op172 wb16m6_prog_13_method_65_code_c0 27 rfl rfl
noncomputable def wp_md_isOf (n : Nat) (x1 : Int32) (x2 : Int32) (x3 : Int32) (σ : wt_St) : Option (Int32 × wt_St) :=
  if x1 < 0 ∨ 61 ≤ Int32.toNatClampNeg x1 then none else
  if x2 < 0 ∨ 8 ≤ Int32.toNatClampNeg x2 then none else
  if x3 < 0 ∨ 12 ≤ Int32.toNatClampNeg x3 then none else
  if (wt_ga σ (255 + Int32.toNatClampNeg x2) (Int32.toNatClampNeg x3)) < 0 ∨ 61 ≤ Int32.toNatClampNeg (wt_ga σ (255 + Int32.toNatClampNeg x2) (Int32.toNatClampNeg x3)) then none else
  if (wt_ga σ 130 (Int32.toNatClampNeg x1)) = (wt_ga σ 130 (Int32.toNatClampNeg (wt_ga σ (255 + Int32.toNatClampNeg x2) (Int32.toNatClampNeg x3)))) then
    some ((1 : Int32), σ)
  else
    some ((0 : Int32), σ)
set_option maxRecDepth 100000 in
set_option maxHeartbeats 4000000 in
theorem wp_md_isOf_ok {l : Launch} {w : wt_E} {n : Nat} {x1 : Int32} {x2 : Int32} {x3 : Int32} (hD : ∀ i, 108 ≤ i → i < 321 → wt_dom w i) {σ : wt_St} {q : Int32 × wt_St} (h : wp_md_isOf n x1 x2 x3 σ = some q) : wt_Ctr l w wt_y_md_isOf prog_13_method_65_code 4 (some .boolean) 0 [.ref (wt_ad w 108), .int x1, .int x2, .int x3] σ (some q.1) q.2 := by
  refine wt_ctr wt_pl_md_isOf rfl (Nat.le_of_ble_eq_true rfl) [some (.ref (wt_ad w 108)), some (.int x1), some (.int x2), some (.int x3)] rfl ?_
  intro X hXl hXw hE hR
  subst hXl
  subst hXw
  have hE : wt_Ok X prog_13_method_65_code 4 "WornTypeModel" 0 0 := hE
  unfold wp_md_isOf at h
  refine wt_aload_n hE wp_md_isOf_d0 rfl ?_
  refine wt_getr hE (r := 130) wt_lf_md_77 (hD 108 (by decide) (by decide)) wt_L108 rfl wp_md_isOf_d1 ?_
  refine wt_iload_n hE wp_md_isOf_d4 rfl ?_
  obtain ⟨g1, h⟩ := wt_gd h
  refine wt_iald hE (hD 130 (by decide) (by decide)) wt_L130 g1 wp_md_isOf_d5 ?_
  refine wt_aload_n hE wp_md_isOf_d6 rfl ?_
  refine wt_getr hE (r := 130) wt_lf_md_77 (hD 108 (by decide) (by decide)) wt_L108 rfl wp_md_isOf_d7 ?_
  refine wt_aload_n hE wp_md_isOf_d10 rfl ?_
  refine wt_getr hE (r := 254) wt_lf_md_91 (hD 108 (by decide) (by decide)) wt_L108 rfl wp_md_isOf_d11 ?_
  refine wt_iload_n hE wp_md_isOf_d14 rfl ?_
  obtain ⟨g2, h⟩ := wt_gd h
  have lg2 := wt_lt g2
  refine wt_aald1 hE (hD 254 (by decide) (by decide)) wt_L254 g2 wp_md_isOf_d15 ?_
  refine wt_iload_n hE wp_md_isOf_d16 rfl ?_
  obtain ⟨g3, h⟩ := wt_gd h
  refine wt_iald hE (hD _ (by omega) (by omega)) (wt_G255 _ lg2) g3 wp_md_isOf_d17 ?_
  obtain ⟨g4, h⟩ := wt_gd h
  refine wt_iald hE (hD 130 (by decide) (by decide)) wt_L130 g4 wp_md_isOf_d18 ?_
  refine wt_icmp_ne hE 26 wp_md_isOf_d19 rfl (fun c5 => ?_) (fun c5 => ?_)
  · have h := wt_in c5 h
    refine wt_iconst hE (0 : Int32) wp_md_isOf_d26 wt_ci_0 ?_
    cases h
    exact wt_zret hE (by decide) hR wp_md_isOf_d27
  · have h := wt_ip c5 h
    refine wt_iconst hE (1 : Int32) wp_md_isOf_d22 wt_ci_1 ?_
    refine wt_goto hE 27 wp_md_isOf_d23 rfl ?_
    cases h
    exact wt_zret hE (by decide) hR wp_md_isOf_d27
def wb16m6_prog_13_method_64_code_r1 : List (List Nat) := [172] :: []
def wb16m6_prog_13_method_64_code_r0 : List (List Nat) := [42, 180, 0, 44, 42, 180, 0, 71, 27, 46, 46, 42, 180, 0, 71, 28, 46, 122, 4, 126, 154, 0, 7, 4, 167, 0, 4, 3] :: wb16m6_prog_13_method_64_code_r1
set_option maxRecDepth 100000 in
theorem wb16m6_prog_13_method_64_code_c0 : wt_cs prog_13_method_64_code 0 wb16m6_prog_13_method_64_code_r0 := wt_cs_of (by decide +kernel)
theorem wb16m6_prog_13_method_64_code_c1 : wt_cs prog_13_method_64_code 28 wb16m6_prog_13_method_64_code_r1 := wt_cs_tl (m := 28) wb16m6_prog_13_method_64_code_c0 rfl rfl
theorem wp_md_mayFollow_d0 : decode prog_13_method_64_code 0 = .ok (.aload_n 0, 1) := wt_op42 wb16m6_prog_13_method_64_code_c0 0 rfl rfl
theorem wp_md_mayFollow_d1 : decode prog_13_method_64_code 1 = .ok (.getfield 44, 3) := wt_op180 wb16m6_prog_13_method_64_code_c0 1 rfl rfl rfl
theorem wp_md_mayFollow_d4 : decode prog_13_method_64_code 4 = .ok (.aload_n 0, 1) := wt_op42 wb16m6_prog_13_method_64_code_c0 4 rfl rfl
theorem wp_md_mayFollow_d5 : decode prog_13_method_64_code 5 = .ok (.getfield 71, 3) := wt_op180 wb16m6_prog_13_method_64_code_c0 5 rfl rfl rfl
theorem wp_md_mayFollow_d8 : decode prog_13_method_64_code 8 = .ok (.iload_n 1, 1) := wt_op27 wb16m6_prog_13_method_64_code_c0 8 rfl rfl
theorem wp_md_mayFollow_d9 : decode prog_13_method_64_code 9 = .ok (.iaload, 1) := wt_op46 wb16m6_prog_13_method_64_code_c0 9 rfl rfl
theorem wp_md_mayFollow_d10 : decode prog_13_method_64_code 10 = .ok (.iaload, 1) := wt_op46 wb16m6_prog_13_method_64_code_c0 10 rfl rfl
theorem wp_md_mayFollow_d11 : decode prog_13_method_64_code 11 = .ok (.aload_n 0, 1) := wt_op42 wb16m6_prog_13_method_64_code_c0 11 rfl rfl
theorem wp_md_mayFollow_d12 : decode prog_13_method_64_code 12 = .ok (.getfield 71, 3) := wt_op180 wb16m6_prog_13_method_64_code_c0 12 rfl rfl rfl
theorem wp_md_mayFollow_d15 : decode prog_13_method_64_code 15 = .ok (.iload_n 2, 1) := wt_op28 wb16m6_prog_13_method_64_code_c0 15 rfl rfl
theorem wp_md_mayFollow_d16 : decode prog_13_method_64_code 16 = .ok (.iaload, 1) := wt_op46 wb16m6_prog_13_method_64_code_c0 16 rfl rfl
theorem wp_md_mayFollow_d17 : decode prog_13_method_64_code 17 = .ok (.ishr, 1) := wt_op122 wb16m6_prog_13_method_64_code_c0 17 rfl rfl
theorem wp_md_mayFollow_d18 : decode prog_13_method_64_code 18 = .ok (.iconst 1, 1) := wt_op4 wb16m6_prog_13_method_64_code_c0 18 rfl rfl
theorem wp_md_mayFollow_d19 : decode prog_13_method_64_code 19 = .ok (.iand, 1) := wt_op126 wb16m6_prog_13_method_64_code_c0 19 rfl rfl
theorem wp_md_mayFollow_d20 : decode prog_13_method_64_code 20 = .ok (.ifCond .ne 7, 3) := wt_op154 wb16m6_prog_13_method_64_code_c0 20 rfl rfl rfl
theorem wp_md_mayFollow_d23 : decode prog_13_method_64_code 23 = .ok (.iconst 1, 1) := wt_op4 wb16m6_prog_13_method_64_code_c0 23 rfl rfl
theorem wp_md_mayFollow_d24 : decode prog_13_method_64_code 24 = .ok (.goto 4, 3) := wt_op167 wb16m6_prog_13_method_64_code_c0 24 rfl rfl rfl
theorem wp_md_mayFollow_d27 : decode prog_13_method_64_code 27 = .ok (.iconst 0, 1) := wt_op3 wb16m6_prog_13_method_64_code_c0 27 rfl rfl
theorem wp_md_mayFollow_d28 : decode prog_13_method_64_code 28 = .ok (.ireturn, 1) := wt_op172 wb16m6_prog_13_method_64_code_c1 0 rfl rfl
noncomputable def wp_md_mayFollow (n : Nat) (x1 : Int32) (x2 : Int32) (σ : wt_St) : Option (Int32 × wt_St) :=
  if x1 < 0 ∨ 60 ≤ Int32.toNatClampNeg x1 then none else
  if (wt_ga σ 128 (Int32.toNatClampNeg x1)) < 0 ∨ 4 ≤ Int32.toNatClampNeg (wt_ga σ 128 (Int32.toNatClampNeg x1)) then none else
  if x2 < 0 ∨ 60 ≤ Int32.toNatClampNeg x2 then none else
  if (((wt_ga σ 119 (Int32.toNatClampNeg (wt_ga σ 128 (Int32.toNatClampNeg x1)))) >>> ((wt_ga σ 128 (Int32.toNatClampNeg x2)) &&& 31)) &&& (1 : Int32)) = 0 then
    some ((1 : Int32), σ)
  else
    some ((0 : Int32), σ)
set_option maxRecDepth 100000 in
set_option maxHeartbeats 4000000 in
theorem wp_md_mayFollow_ok {l : Launch} {w : wt_E} {n : Nat} {x1 : Int32} {x2 : Int32} (hD : ∀ i, 108 ≤ i → i < 321 → wt_dom w i) {σ : wt_St} {q : Int32 × wt_St} (h : wp_md_mayFollow n x1 x2 σ = some q) : wt_Ctr l w wt_y_md_mayFollow prog_13_method_64_code 3 (some .boolean) 0 [.ref (wt_ad w 108), .int x1, .int x2] σ (some q.1) q.2 := by
  refine wt_ctr wt_pl_md_mayFollow rfl (Nat.le_of_ble_eq_true rfl) [some (.ref (wt_ad w 108)), some (.int x1), some (.int x2)] rfl ?_
  intro X hXl hXw hE hR
  subst hXl
  subst hXw
  have hE : wt_Ok X prog_13_method_64_code 3 "WornTypeModel" 0 0 := hE
  unfold wp_md_mayFollow at h
  refine wt_aload_n hE wp_md_mayFollow_d0 rfl ?_
  refine wt_getr hE (r := 119) wt_lf_md_44 (hD 108 (by decide) (by decide)) wt_L108 rfl wp_md_mayFollow_d1 ?_
  refine wt_aload_n hE wp_md_mayFollow_d4 rfl ?_
  refine wt_getr hE (r := 128) wt_lf_md_71 (hD 108 (by decide) (by decide)) wt_L108 rfl wp_md_mayFollow_d5 ?_
  refine wt_iload_n hE wp_md_mayFollow_d8 rfl ?_
  obtain ⟨g1, h⟩ := wt_gd h
  refine wt_iald hE (hD 128 (by decide) (by decide)) wt_L128 g1 wp_md_mayFollow_d9 ?_
  obtain ⟨g2, h⟩ := wt_gd h
  refine wt_iald hE (hD 119 (by decide) (by decide)) wt_L119 g2 wp_md_mayFollow_d10 ?_
  refine wt_aload_n hE wp_md_mayFollow_d11 rfl ?_
  refine wt_getr hE (r := 128) wt_lf_md_71 (hD 108 (by decide) (by decide)) wt_L108 rfl wp_md_mayFollow_d12 ?_
  refine wt_iload_n hE wp_md_mayFollow_d15 rfl ?_
  obtain ⟨g3, h⟩ := wt_gd h
  refine wt_iald hE (hD 128 (by decide) (by decide)) wt_L128 g3 wp_md_mayFollow_d16 ?_
  refine wt_ishr hE wp_md_mayFollow_d17 ?_
  refine wt_iconst hE (1 : Int32) wp_md_mayFollow_d18 wt_ci_1 ?_
  refine wt_iand hE wp_md_mayFollow_d19 ?_
  refine wt_if_ne hE 27 wp_md_mayFollow_d20 rfl (fun c4 => ?_) (fun c4 => ?_)
  · have h := wt_in c4 h
    refine wt_iconst hE (0 : Int32) wp_md_mayFollow_d27 wt_ci_0 ?_
    cases h
    exact wt_zret hE (by decide) hR wp_md_mayFollow_d28
  · have h := wt_ip c4 h
    refine wt_iconst hE (1 : Int32) wp_md_mayFollow_d23 wt_ci_1 ?_
    refine wt_goto hE 28 wp_md_mayFollow_d24 rfl ?_
    cases h
    exact wt_zret hE (by decide) hR wp_md_mayFollow_d28
def wb16m6_prog_13_method_42_code_r1 : List (List Nat) := [96, 61, 132, 3, 1, 167, 255, 227, 28, 172] :: []
def wb16m6_prog_13_method_42_code_r0 : List (List Nat) := [3, 61, 3, 62, 29, 42, 180, 0, 65, 27, 46, 162, 0, 25, 28, 42, 180, 0, 32, 42, 180, 0, 85, 27, 50, 29, 46, 46] :: wb16m6_prog_13_method_42_code_r1
set_option maxRecDepth 100000 in
theorem wb16m6_prog_13_method_42_code_c0 : wt_cs prog_13_method_42_code 0 wb16m6_prog_13_method_42_code_r0 := wt_cs_of (by decide +kernel)
theorem wb16m6_prog_13_method_42_code_c1 : wt_cs prog_13_method_42_code 28 wb16m6_prog_13_method_42_code_r1 := wt_cs_tl (m := 28) wb16m6_prog_13_method_42_code_c0 rfl rfl
theorem wp_md_priceOf_d0 : decode prog_13_method_42_code 0 = .ok (.iconst 0, 1) := wt_op3 wb16m6_prog_13_method_42_code_c0 0 rfl rfl
theorem wp_md_priceOf_d1 : decode prog_13_method_42_code 1 = .ok (.istore_n 2, 1) := wt_op61 wb16m6_prog_13_method_42_code_c0 1 rfl rfl
theorem wp_md_priceOf_d2 : decode prog_13_method_42_code 2 = .ok (.iconst 0, 1) := wt_op3 wb16m6_prog_13_method_42_code_c0 2 rfl rfl
theorem wp_md_priceOf_d3 : decode prog_13_method_42_code 3 = .ok (.istore_n 3, 1) := wt_op62 wb16m6_prog_13_method_42_code_c0 3 rfl rfl
theorem wp_md_priceOf_d4 : decode prog_13_method_42_code 4 = .ok (.iload_n 3, 1) := wt_op29 wb16m6_prog_13_method_42_code_c0 4 rfl rfl
theorem wp_md_priceOf_d5 : decode prog_13_method_42_code 5 = .ok (.aload_n 0, 1) := wt_op42 wb16m6_prog_13_method_42_code_c0 5 rfl rfl
theorem wp_md_priceOf_d6 : decode prog_13_method_42_code 6 = .ok (.getfield 65, 3) := wt_op180 wb16m6_prog_13_method_42_code_c0 6 rfl rfl rfl
theorem wp_md_priceOf_d9 : decode prog_13_method_42_code 9 = .ok (.iload_n 1, 1) := wt_op27 wb16m6_prog_13_method_42_code_c0 9 rfl rfl
theorem wp_md_priceOf_d10 : decode prog_13_method_42_code 10 = .ok (.iaload, 1) := wt_op46 wb16m6_prog_13_method_42_code_c0 10 rfl rfl
theorem wp_md_priceOf_d11 : decode prog_13_method_42_code 11 = .ok (.if_icmp .ge 25, 3) := wt_op162 wb16m6_prog_13_method_42_code_c0 11 rfl rfl rfl
theorem wp_md_priceOf_d14 : decode prog_13_method_42_code 14 = .ok (.iload_n 2, 1) := wt_op28 wb16m6_prog_13_method_42_code_c0 14 rfl rfl
theorem wp_md_priceOf_d15 : decode prog_13_method_42_code 15 = .ok (.aload_n 0, 1) := wt_op42 wb16m6_prog_13_method_42_code_c0 15 rfl rfl
theorem wp_md_priceOf_d16 : decode prog_13_method_42_code 16 = .ok (.getfield 32, 3) := wt_op180 wb16m6_prog_13_method_42_code_c0 16 rfl rfl rfl
theorem wp_md_priceOf_d19 : decode prog_13_method_42_code 19 = .ok (.aload_n 0, 1) := wt_op42 wb16m6_prog_13_method_42_code_c0 19 rfl rfl
theorem wp_md_priceOf_d20 : decode prog_13_method_42_code 20 = .ok (.getfield 85, 3) := wt_op180 wb16m6_prog_13_method_42_code_c0 20 rfl rfl rfl
theorem wp_md_priceOf_d23 : decode prog_13_method_42_code 23 = .ok (.iload_n 1, 1) := wt_op27 wb16m6_prog_13_method_42_code_c0 23 rfl rfl
theorem wp_md_priceOf_d24 : decode prog_13_method_42_code 24 = .ok (.aaload, 1) := wt_op50 wb16m6_prog_13_method_42_code_c0 24 rfl rfl
theorem wp_md_priceOf_d25 : decode prog_13_method_42_code 25 = .ok (.iload_n 3, 1) := wt_op29 wb16m6_prog_13_method_42_code_c0 25 rfl rfl
theorem wp_md_priceOf_d26 : decode prog_13_method_42_code 26 = .ok (.iaload, 1) := wt_op46 wb16m6_prog_13_method_42_code_c0 26 rfl rfl
theorem wp_md_priceOf_d27 : decode prog_13_method_42_code 27 = .ok (.iaload, 1) := wt_op46 wb16m6_prog_13_method_42_code_c0 27 rfl rfl
theorem wp_md_priceOf_d28 : decode prog_13_method_42_code 28 = .ok (.iadd, 1) := wt_op96 wb16m6_prog_13_method_42_code_c1 0 rfl rfl
theorem wp_md_priceOf_d29 : decode prog_13_method_42_code 29 = .ok (.istore_n 2, 1) := wt_op61 wb16m6_prog_13_method_42_code_c1 1 rfl rfl
theorem wp_md_priceOf_d30 : decode prog_13_method_42_code 30 = .ok (.iinc 3 1, 3) := wt_op132 wb16m6_prog_13_method_42_code_c1 2 rfl rfl rfl
theorem wp_md_priceOf_d33 : decode prog_13_method_42_code 33 = .ok (.goto (-29), 3) := wt_op167 wb16m6_prog_13_method_42_code_c1 5 rfl rfl rfl
theorem wp_md_priceOf_d36 : decode prog_13_method_42_code 36 = .ok (.iload_n 2, 1) := wt_op28 wb16m6_prog_13_method_42_code_c1 8 rfl rfl
theorem wp_md_priceOf_d37 : decode prog_13_method_42_code 37 = .ok (.ireturn, 1) := wt_op172 wb16m6_prog_13_method_42_code_c1 9 rfl rfl
noncomputable def wp_md_priceOf_B4 (n : Nat) (x1 : Int32) (K4 : Int32 × Int32 × wt_St → Option (Int32 × wt_St)) (s : Int32 × Int32 × wt_St) : Option (Int32 × wt_St) :=
  if x1 < 0 ∨ 60 ≤ Int32.toNatClampNeg x1 then none else
  if (wt_ga s.2.2 126 (Int32.toNatClampNeg x1)) ≤ s.2.1 then
    some (s.1, s.2.2)
  else
    if x1 < 0 ∨ 60 ≤ Int32.toNatClampNeg x1 then none else
    if s.2.1 < 0 ∨ 9 ≤ Int32.toNatClampNeg s.2.1 then none else
    if (wt_ga s.2.2 (193 + Int32.toNatClampNeg x1) (Int32.toNatClampNeg s.2.1)) < 0 ∨ 26 ≤ Int32.toNatClampNeg (wt_ga s.2.2 (193 + Int32.toNatClampNeg x1) (Int32.toNatClampNeg s.2.1)) then none else
    K4 ((s.1 + (wt_ga s.2.2 115 (Int32.toNatClampNeg (wt_ga s.2.2 (193 + Int32.toNatClampNeg x1) (Int32.toNatClampNeg s.2.1))))), (s.2.1 + (1 : Int32)), s.2.2)
set_option maxRecDepth 100000 in
set_option maxHeartbeats 4000000 in
theorem wp_md_priceOf_B4_ok  {x1 : Int32} {X : wt_X} {n : Nat} {res : Int32 × wt_St} (hE : wt_Ok X prog_13_method_42_code 4 "WornTypeModel" 0 0) (hR : wt_Rt X (some .int) (some res.1) res.2) (hD : ∀ i, 108 ≤ i → i < 321 → wt_dom (wt_xw X) i)  {K4 : Int32 × Int32 × wt_St → Option (Int32 × wt_St)} (hK4 : ∀ s : Int32 × Int32 × wt_St, K4 s = some res → wt_V X 0 s.2.2 4 [some (.ref (wt_ad (wt_xw X) 108)), some (.int x1), some (.int s.1), some (.int s.2.1)] []) {s : Int32 × Int32 × wt_St} (h : wp_md_priceOf_B4 n x1 K4 s = some res) : wt_V X 0 s.2.2 4 [some (.ref (wt_ad (wt_xw X) 108)), some (.int x1), some (.int s.1), some (.int s.2.1)] [] := by
  unfold wp_md_priceOf_B4 at h
  refine wt_iload_n hE wp_md_priceOf_d4 rfl ?_
  refine wt_aload_n hE wp_md_priceOf_d5 rfl ?_
  refine wt_getr hE (r := 126) wt_lf_md_65 (hD 108 (by decide) (by decide)) wt_L108 rfl wp_md_priceOf_d6 ?_
  refine wt_iload_n hE wp_md_priceOf_d9 rfl ?_
  obtain ⟨g1, h⟩ := wt_gd h
  refine wt_iald hE (hD 126 (by decide) (by decide)) wt_L126 g1 wp_md_priceOf_d10 ?_
  refine wt_icmp_ge hE 36 wp_md_priceOf_d11 rfl (fun c2 => ?_) (fun c2 => ?_)
  · have h := wt_ip c2 h
    refine wt_iload_n hE wp_md_priceOf_d36 rfl ?_
    cases h
    exact wt_iret hE hR wp_md_priceOf_d37
  · have h := wt_in c2 h
    refine wt_iload_n hE wp_md_priceOf_d14 rfl ?_
    refine wt_aload_n hE wp_md_priceOf_d15 rfl ?_
    refine wt_getr hE (r := 115) wt_lf_md_32 (hD 108 (by decide) (by decide)) wt_L108 rfl wp_md_priceOf_d16 ?_
    refine wt_aload_n hE wp_md_priceOf_d19 rfl ?_
    refine wt_getr hE (r := 192) wt_lf_md_85 (hD 108 (by decide) (by decide)) wt_L108 rfl wp_md_priceOf_d20 ?_
    refine wt_iload_n hE wp_md_priceOf_d23 rfl ?_
    obtain ⟨g3, h⟩ := wt_gd h
    have lg3 := wt_lt g3
    refine wt_aald1 hE (hD 192 (by decide) (by decide)) wt_L192 g3 wp_md_priceOf_d24 ?_
    refine wt_iload_n hE wp_md_priceOf_d25 rfl ?_
    obtain ⟨g4, h⟩ := wt_gd h
    refine wt_iald hE (hD _ (by omega) (by omega)) (wt_G193 _ lg3) g4 wp_md_priceOf_d26 ?_
    obtain ⟨g5, h⟩ := wt_gd h
    refine wt_iald hE (hD 115 (by decide) (by decide)) wt_L115 g5 wp_md_priceOf_d27 ?_
    refine wt_iadd hE wp_md_priceOf_d28 ?_
    refine wt_istore_n hE [some (.ref (wt_ad (wt_xw X) 108)), some (.int x1), some (.int (s.1 + (wt_ga s.2.2 115 (Int32.toNatClampNeg (wt_ga s.2.2 (193 + Int32.toNatClampNeg x1) (Int32.toNatClampNeg s.2.1)))))), some (.int s.2.1)] wp_md_priceOf_d29 (by decide) rfl ?_
    refine wt_iinc hE (s.2.1 + (1 : Int32)) [some (.ref (wt_ad (wt_xw X) 108)), some (.int x1), some (.int (s.1 + (wt_ga s.2.2 115 (Int32.toNatClampNeg (wt_ga s.2.2 (193 + Int32.toNatClampNeg x1) (Int32.toNatClampNeg s.2.1)))))), some (.int (s.2.1 + (1 : Int32)))] wp_md_priceOf_d30 (by decide) rfl rfl rfl ?_
    refine wt_goto hE 4 wp_md_priceOf_d33 rfl ?_
    exact hK4 ((s.1 + (wt_ga s.2.2 115 (Int32.toNatClampNeg (wt_ga s.2.2 (193 + Int32.toNatClampNeg x1) (Int32.toNatClampNeg s.2.1))))), (s.2.1 + (1 : Int32)), s.2.2) h
noncomputable def wp_md_priceOf (n : Nat) (x1 : Int32) (σ : wt_St) : Option (Int32 × wt_St) :=
  wt_it (wp_md_priceOf_B4 n x1) n ((0 : Int32), (0 : Int32), σ)
set_option maxRecDepth 100000 in
set_option maxHeartbeats 4000000 in
theorem wp_md_priceOf_ok {l : Launch} {w : wt_E} {n : Nat} {x1 : Int32} (hD : ∀ i, 108 ≤ i → i < 321 → wt_dom w i) {σ : wt_St} {q : Int32 × wt_St} (h : wp_md_priceOf n x1 σ = some q) : wt_Ctr l w wt_y_md_priceOf prog_13_method_42_code 4 (some .int) 0 [.ref (wt_ad w 108), .int x1] σ (some q.1) q.2 := by
  refine wt_ctr wt_pl_md_priceOf rfl (Nat.le_of_ble_eq_true rfl) [some (.ref (wt_ad w 108)), some (.int x1), none, none] rfl ?_
  intro X hXl hXw hE hR
  subst hXl
  subst hXw
  have hE : wt_Ok X prog_13_method_42_code 4 "WornTypeModel" 0 0 := hE
  unfold wp_md_priceOf at h
  refine wt_iconst hE (0 : Int32) wp_md_priceOf_d0 wt_ci_0 ?_
  refine wt_istore_n hE [some (.ref (wt_ad (wt_xw X) 108)), some (.int x1), some (.int (0 : Int32)), none] wp_md_priceOf_d1 (by decide) rfl ?_
  refine wt_iconst hE (0 : Int32) wp_md_priceOf_d2 wt_ci_0 ?_
  refine wt_istore_n hE [some (.ref (wt_ad (wt_xw X) 108)), some (.int x1), some (.int (0 : Int32)), some (.int (0 : Int32))] wp_md_priceOf_d3 (by decide) rfl ?_
  exact wt_it_ind (fun z => wt_V X 0 z.2.2 4 [some (.ref (wt_ad (wt_xw X) 108)), some (.int x1), some (.int z.1), some (.int z.2.1)] []) (fun K hK z h => wp_md_priceOf_B4_ok hE hR hD hK h) n ((0 : Int32), (0 : Int32), σ) h
def wb16m6_prog_13_method_68_code_r6 : List (List Nat) := [96, 182, 1, 96, 132, 5, 1, 167, 255, 183, 177] :: []
def wb16m6_prog_13_method_68_code_r5 : List (List Nat) := [154, 0, 6, 167, 0, 29, 42, 180, 0, 139, 28, 21, 5, 79, 42, 27, 28, 4, 96, 29, 21, 4, 42, 21, 5, 182, 1, 45] :: wb16m6_prog_13_method_68_code_r6
def wb16m6_prog_13_method_68_code_r4 : List (List Nat) := [42, 21, 5, 27, 28, 182, 1, 83, 153, 0, 53, 28, 158, 0, 23, 42, 42, 180, 0, 139, 28, 4, 100, 46, 21, 5, 182, 1, 86] :: wb16m6_prog_13_method_68_code_r5
def wb16m6_prog_13_method_68_code_r3 : List (List Nat) := [21, 5, 42, 180, 0, 139, 21, 5, 46, 79, 132, 5, 1, 167, 255, 233, 177, 3, 54, 5, 21, 5, 42, 180, 1, 3, 162, 0, 70] :: wb16m6_prog_13_method_68_code_r4
def wb16m6_prog_13_method_68_code_r2 : List (List Nat) := [42, 29, 182, 1, 36, 2, 159, 0, 4, 177, 42, 21, 4, 181, 1, 93, 3, 54, 5, 21, 5, 28, 162, 0, 23, 42, 180, 0, 136] :: wb16m6_prog_13_method_68_code_r3
def wb16m6_prog_13_method_68_code_r1 : List (List Nat) := [42, 182, 1, 27, 3, 54, 5, 21, 5, 28, 162, 0, 20, 42, 42, 180, 0, 139, 21, 5, 46, 182, 1, 30, 132, 5, 1, 167, 255, 236] :: wb16m6_prog_13_method_68_code_r2
def wb16m6_prog_13_method_68_code_r0 : List (List Nat) := [42, 180, 1, 93, 2, 159, 0, 13, 21, 4, 42, 180, 1, 93, 161, 0, 4, 177, 28, 42, 180, 0, 88, 27, 46, 160, 0, 79] :: wb16m6_prog_13_method_68_code_r1
set_option maxRecDepth 100000 in
theorem wb16m6_prog_13_method_68_code_c0 : wt_cs prog_13_method_68_code 0 wb16m6_prog_13_method_68_code_r0 := wt_cs_of (by decide +kernel)
theorem wb16m6_prog_13_method_68_code_c1 : wt_cs prog_13_method_68_code 28 wb16m6_prog_13_method_68_code_r1 := wt_cs_tl (m := 28) wb16m6_prog_13_method_68_code_c0 rfl rfl
theorem wb16m6_prog_13_method_68_code_c2 : wt_cs prog_13_method_68_code 58 wb16m6_prog_13_method_68_code_r2 := wt_cs_tl (m := 30) wb16m6_prog_13_method_68_code_c1 rfl rfl
theorem wb16m6_prog_13_method_68_code_c3 : wt_cs prog_13_method_68_code 87 wb16m6_prog_13_method_68_code_r3 := wt_cs_tl (m := 29) wb16m6_prog_13_method_68_code_c2 rfl rfl
theorem wb16m6_prog_13_method_68_code_c4 : wt_cs prog_13_method_68_code 116 wb16m6_prog_13_method_68_code_r4 := wt_cs_tl (m := 29) wb16m6_prog_13_method_68_code_c3 rfl rfl
theorem wb16m6_prog_13_method_68_code_c5 : wt_cs prog_13_method_68_code 145 wb16m6_prog_13_method_68_code_r5 := wt_cs_tl (m := 29) wb16m6_prog_13_method_68_code_c4 rfl rfl
theorem wb16m6_prog_13_method_68_code_c6 : wt_cs prog_13_method_68_code 173 wb16m6_prog_13_method_68_code_r6 := wt_cs_tl (m := 28) wb16m6_prog_13_method_68_code_c5 rfl rfl
theorem wp_md_tries_d0 : decode prog_13_method_68_code 0 = .ok (.aload_n 0, 1) := wt_op42 wb16m6_prog_13_method_68_code_c0 0 rfl rfl
theorem wp_md_tries_d1 : decode prog_13_method_68_code 1 = .ok (.getfield 349, 3) := wt_op180 wb16m6_prog_13_method_68_code_c0 1 rfl rfl rfl
theorem wp_md_tries_d4 : decode prog_13_method_68_code 4 = .ok (.iconst (-1), 1) := wt_op2 wb16m6_prog_13_method_68_code_c0 4 rfl rfl
theorem wp_md_tries_d5 : decode prog_13_method_68_code 5 = .ok (.if_icmp .eq 13, 3) := wt_op159 wb16m6_prog_13_method_68_code_c0 5 rfl rfl rfl
theorem wp_md_tries_d8 : decode prog_13_method_68_code 8 = .ok (.iload 4, 2) := wt_op21 wb16m6_prog_13_method_68_code_c0 8 rfl rfl
theorem wp_md_tries_d10 : decode prog_13_method_68_code 10 = .ok (.aload_n 0, 1) := wt_op42 wb16m6_prog_13_method_68_code_c0 10 rfl rfl
theorem wp_md_tries_d11 : decode prog_13_method_68_code 11 = .ok (.getfield 349, 3) := wt_op180 wb16m6_prog_13_method_68_code_c0 11 rfl rfl rfl
theorem wp_md_tries_d14 : decode prog_13_method_68_code 14 = .ok (.if_icmp .lt 4, 3) := wt_op161 wb16m6_prog_13_method_68_code_c0 14 rfl rfl rfl
theorem wp_md_tries_d17 : decode prog_13_method_68_code 17 = .ok (.return_, 1) := wt_op177 wb16m6_prog_13_method_68_code_c0 17 rfl rfl
theorem wp_md_tries_d18 : decode prog_13_method_68_code 18 = .ok (.iload_n 2, 1) := wt_op28 wb16m6_prog_13_method_68_code_c0 18 rfl rfl
theorem wp_md_tries_d19 : decode prog_13_method_68_code 19 = .ok (.aload_n 0, 1) := wt_op42 wb16m6_prog_13_method_68_code_c0 19 rfl rfl
theorem wp_md_tries_d20 : decode prog_13_method_68_code 20 = .ok (.getfield 88, 3) := wt_op180 wb16m6_prog_13_method_68_code_c0 20 rfl rfl rfl
theorem wp_md_tries_d23 : decode prog_13_method_68_code 23 = .ok (.iload_n 1, 1) := wt_op27 wb16m6_prog_13_method_68_code_c0 23 rfl rfl
theorem wp_md_tries_d24 : decode prog_13_method_68_code 24 = .ok (.iaload, 1) := wt_op46 wb16m6_prog_13_method_68_code_c0 24 rfl rfl
theorem wp_md_tries_d25 : decode prog_13_method_68_code 25 = .ok (.if_icmp .ne 79, 3) := wt_op160 wb16m6_prog_13_method_68_code_c0 25 rfl rfl rfl
theorem wp_md_tries_d28 : decode prog_13_method_68_code 28 = .ok (.aload_n 0, 1) := wt_op42 wb16m6_prog_13_method_68_code_c1 0 rfl rfl
theorem wp_md_tries_d29 : decode prog_13_method_68_code 29 = .ok (.invokevirtual 283, 3) := wt_op182 wb16m6_prog_13_method_68_code_c1 1 rfl rfl rfl
theorem wp_md_tries_d32 : decode prog_13_method_68_code 32 = .ok (.iconst 0, 1) := wt_op3 wb16m6_prog_13_method_68_code_c1 4 rfl rfl
theorem wp_md_tries_d33 : decode prog_13_method_68_code 33 = .ok (.istore 5, 2) := wt_op54 wb16m6_prog_13_method_68_code_c1 5 rfl rfl
theorem wp_md_tries_d35 : decode prog_13_method_68_code 35 = .ok (.iload 5, 2) := wt_op21 wb16m6_prog_13_method_68_code_c1 7 rfl rfl
theorem wp_md_tries_d37 : decode prog_13_method_68_code 37 = .ok (.iload_n 2, 1) := wt_op28 wb16m6_prog_13_method_68_code_c1 9 rfl rfl
theorem wp_md_tries_d38 : decode prog_13_method_68_code 38 = .ok (.if_icmp .ge 20, 3) := wt_op162 wb16m6_prog_13_method_68_code_c1 10 rfl rfl rfl
theorem wp_md_tries_d41 : decode prog_13_method_68_code 41 = .ok (.aload_n 0, 1) := wt_op42 wb16m6_prog_13_method_68_code_c1 13 rfl rfl
theorem wp_md_tries_d42 : decode prog_13_method_68_code 42 = .ok (.aload_n 0, 1) := wt_op42 wb16m6_prog_13_method_68_code_c1 14 rfl rfl
theorem wp_md_tries_d43 : decode prog_13_method_68_code 43 = .ok (.getfield 139, 3) := wt_op180 wb16m6_prog_13_method_68_code_c1 15 rfl rfl rfl
theorem wp_md_tries_d46 : decode prog_13_method_68_code 46 = .ok (.iload 5, 2) := wt_op21 wb16m6_prog_13_method_68_code_c1 18 rfl rfl
theorem wp_md_tries_d48 : decode prog_13_method_68_code 48 = .ok (.iaload, 1) := wt_op46 wb16m6_prog_13_method_68_code_c1 20 rfl rfl
theorem wp_md_tries_d49 : decode prog_13_method_68_code 49 = .ok (.invokevirtual 286, 3) := wt_op182 wb16m6_prog_13_method_68_code_c1 21 rfl rfl rfl
theorem wp_md_tries_d52 : decode prog_13_method_68_code 52 = .ok (.iinc 5 1, 3) := wt_op132 wb16m6_prog_13_method_68_code_c1 24 rfl rfl rfl
theorem wp_md_tries_d55 : decode prog_13_method_68_code 55 = .ok (.goto (-20), 3) := wt_op167 wb16m6_prog_13_method_68_code_c1 27 rfl rfl rfl
theorem wp_md_tries_d58 : decode prog_13_method_68_code 58 = .ok (.aload_n 0, 1) := wt_op42 wb16m6_prog_13_method_68_code_c2 0 rfl rfl
theorem wp_md_tries_d59 : decode prog_13_method_68_code 59 = .ok (.iload_n 3, 1) := wt_op29 wb16m6_prog_13_method_68_code_c2 1 rfl rfl
theorem wp_md_tries_d60 : decode prog_13_method_68_code 60 = .ok (.invokevirtual 292, 3) := wt_op182 wb16m6_prog_13_method_68_code_c2 2 rfl rfl rfl
theorem wp_md_tries_d63 : decode prog_13_method_68_code 63 = .ok (.iconst (-1), 1) := wt_op2 wb16m6_prog_13_method_68_code_c2 5 rfl rfl
theorem wp_md_tries_d64 : decode prog_13_method_68_code 64 = .ok (.if_icmp .eq 4, 3) := wt_op159 wb16m6_prog_13_method_68_code_c2 6 rfl rfl rfl
theorem wp_md_tries_d67 : decode prog_13_method_68_code 67 = .ok (.return_, 1) := wt_op177 wb16m6_prog_13_method_68_code_c2 9 rfl rfl
theorem wp_md_tries_d68 : decode prog_13_method_68_code 68 = .ok (.aload_n 0, 1) := wt_op42 wb16m6_prog_13_method_68_code_c2 10 rfl rfl
theorem wp_md_tries_d69 : decode prog_13_method_68_code 69 = .ok (.iload 4, 2) := wt_op21 wb16m6_prog_13_method_68_code_c2 11 rfl rfl
theorem wp_md_tries_d71 : decode prog_13_method_68_code 71 = .ok (.putfield 349, 3) := wt_op181 wb16m6_prog_13_method_68_code_c2 13 rfl rfl rfl
theorem wp_md_tries_d74 : decode prog_13_method_68_code 74 = .ok (.iconst 0, 1) := wt_op3 wb16m6_prog_13_method_68_code_c2 16 rfl rfl
theorem wp_md_tries_d75 : decode prog_13_method_68_code 75 = .ok (.istore 5, 2) := wt_op54 wb16m6_prog_13_method_68_code_c2 17 rfl rfl
theorem wp_md_tries_d77 : decode prog_13_method_68_code 77 = .ok (.iload 5, 2) := wt_op21 wb16m6_prog_13_method_68_code_c2 19 rfl rfl
theorem wp_md_tries_d79 : decode prog_13_method_68_code 79 = .ok (.iload_n 2, 1) := wt_op28 wb16m6_prog_13_method_68_code_c2 21 rfl rfl
theorem wp_md_tries_d80 : decode prog_13_method_68_code 80 = .ok (.if_icmp .ge 23, 3) := wt_op162 wb16m6_prog_13_method_68_code_c2 22 rfl rfl rfl
theorem wp_md_tries_d83 : decode prog_13_method_68_code 83 = .ok (.aload_n 0, 1) := wt_op42 wb16m6_prog_13_method_68_code_c2 25 rfl rfl
theorem wp_md_tries_d84 : decode prog_13_method_68_code 84 = .ok (.getfield 136, 3) := wt_op180 wb16m6_prog_13_method_68_code_c2 26 rfl rfl rfl
theorem wp_md_tries_d87 : decode prog_13_method_68_code 87 = .ok (.iload 5, 2) := wt_op21 wb16m6_prog_13_method_68_code_c3 0 rfl rfl
theorem wp_md_tries_d89 : decode prog_13_method_68_code 89 = .ok (.aload_n 0, 1) := wt_op42 wb16m6_prog_13_method_68_code_c3 2 rfl rfl
theorem wp_md_tries_d90 : decode prog_13_method_68_code 90 = .ok (.getfield 139, 3) := wt_op180 wb16m6_prog_13_method_68_code_c3 3 rfl rfl rfl
theorem wp_md_tries_d93 : decode prog_13_method_68_code 93 = .ok (.iload 5, 2) := wt_op21 wb16m6_prog_13_method_68_code_c3 6 rfl rfl
theorem wp_md_tries_d95 : decode prog_13_method_68_code 95 = .ok (.iaload, 1) := wt_op46 wb16m6_prog_13_method_68_code_c3 8 rfl rfl
theorem wp_md_tries_d96 : decode prog_13_method_68_code 96 = .ok (.iastore, 1) := wt_op79 wb16m6_prog_13_method_68_code_c3 9 rfl rfl
theorem wp_md_tries_d97 : decode prog_13_method_68_code 97 = .ok (.iinc 5 1, 3) := wt_op132 wb16m6_prog_13_method_68_code_c3 10 rfl rfl rfl
theorem wp_md_tries_d100 : decode prog_13_method_68_code 100 = .ok (.goto (-23), 3) := wt_op167 wb16m6_prog_13_method_68_code_c3 13 rfl rfl rfl
theorem wp_md_tries_d103 : decode prog_13_method_68_code 103 = .ok (.return_, 1) := wt_op177 wb16m6_prog_13_method_68_code_c3 16 rfl rfl
theorem wp_md_tries_d104 : decode prog_13_method_68_code 104 = .ok (.iconst 0, 1) := wt_op3 wb16m6_prog_13_method_68_code_c3 17 rfl rfl
theorem wp_md_tries_d105 : decode prog_13_method_68_code 105 = .ok (.istore 5, 2) := wt_op54 wb16m6_prog_13_method_68_code_c3 18 rfl rfl
theorem wp_md_tries_d107 : decode prog_13_method_68_code 107 = .ok (.iload 5, 2) := wt_op21 wb16m6_prog_13_method_68_code_c3 20 rfl rfl
theorem wp_md_tries_d109 : decode prog_13_method_68_code 109 = .ok (.aload_n 0, 1) := wt_op42 wb16m6_prog_13_method_68_code_c3 22 rfl rfl
theorem wp_md_tries_d110 : decode prog_13_method_68_code 110 = .ok (.getfield 259, 3) := wt_op180 wb16m6_prog_13_method_68_code_c3 23 rfl rfl rfl
theorem wp_md_tries_d113 : decode prog_13_method_68_code 113 = .ok (.if_icmp .ge 70, 3) := wt_op162 wb16m6_prog_13_method_68_code_c3 26 rfl rfl rfl
theorem wp_md_tries_d116 : decode prog_13_method_68_code 116 = .ok (.aload_n 0, 1) := wt_op42 wb16m6_prog_13_method_68_code_c4 0 rfl rfl
theorem wp_md_tries_d117 : decode prog_13_method_68_code 117 = .ok (.iload 5, 2) := wt_op21 wb16m6_prog_13_method_68_code_c4 1 rfl rfl
theorem wp_md_tries_d119 : decode prog_13_method_68_code 119 = .ok (.iload_n 1, 1) := wt_op27 wb16m6_prog_13_method_68_code_c4 3 rfl rfl
theorem wp_md_tries_d120 : decode prog_13_method_68_code 120 = .ok (.iload_n 2, 1) := wt_op28 wb16m6_prog_13_method_68_code_c4 4 rfl rfl
theorem wp_md_tries_d121 : decode prog_13_method_68_code 121 = .ok (.invokevirtual 339, 3) := wt_op182 wb16m6_prog_13_method_68_code_c4 5 rfl rfl rfl
theorem wp_md_tries_d124 : decode prog_13_method_68_code 124 = .ok (.ifCond .eq 53, 3) := wt_op153 wb16m6_prog_13_method_68_code_c4 8 rfl rfl rfl
theorem wp_md_tries_d127 : decode prog_13_method_68_code 127 = .ok (.iload_n 2, 1) := wt_op28 wb16m6_prog_13_method_68_code_c4 11 rfl rfl
theorem wp_md_tries_d128 : decode prog_13_method_68_code 128 = .ok (.ifCond .le 23, 3) := wt_op158 wb16m6_prog_13_method_68_code_c4 12 rfl rfl rfl
theorem wp_md_tries_d131 : decode prog_13_method_68_code 131 = .ok (.aload_n 0, 1) := wt_op42 wb16m6_prog_13_method_68_code_c4 15 rfl rfl
theorem wp_md_tries_d132 : decode prog_13_method_68_code 132 = .ok (.aload_n 0, 1) := wt_op42 wb16m6_prog_13_method_68_code_c4 16 rfl rfl
theorem wp_md_tries_d133 : decode prog_13_method_68_code 133 = .ok (.getfield 139, 3) := wt_op180 wb16m6_prog_13_method_68_code_c4 17 rfl rfl rfl
theorem wp_md_tries_d136 : decode prog_13_method_68_code 136 = .ok (.iload_n 2, 1) := wt_op28 wb16m6_prog_13_method_68_code_c4 20 rfl rfl
theorem wp_md_tries_d137 : decode prog_13_method_68_code 137 = .ok (.iconst 1, 1) := wt_op4 wb16m6_prog_13_method_68_code_c4 21 rfl rfl
theorem wp_md_tries_d138 : decode prog_13_method_68_code 138 = .ok (.isub, 1) := wt_op100 wb16m6_prog_13_method_68_code_c4 22 rfl rfl
theorem wp_md_tries_d139 : decode prog_13_method_68_code 139 = .ok (.iaload, 1) := wt_op46 wb16m6_prog_13_method_68_code_c4 23 rfl rfl
theorem wp_md_tries_d140 : decode prog_13_method_68_code 140 = .ok (.iload 5, 2) := wt_op21 wb16m6_prog_13_method_68_code_c4 24 rfl rfl
theorem wp_md_tries_d142 : decode prog_13_method_68_code 142 = .ok (.invokevirtual 342, 3) := wt_op182 wb16m6_prog_13_method_68_code_c4 26 rfl rfl rfl
theorem wp_md_tries_d145 : decode prog_13_method_68_code 145 = .ok (.ifCond .ne 6, 3) := wt_op154 wb16m6_prog_13_method_68_code_c5 0 rfl rfl rfl
theorem wp_md_tries_d148 : decode prog_13_method_68_code 148 = .ok (.goto 29, 3) := wt_op167 wb16m6_prog_13_method_68_code_c5 3 rfl rfl rfl
theorem wp_md_tries_d151 : decode prog_13_method_68_code 151 = .ok (.aload_n 0, 1) := wt_op42 wb16m6_prog_13_method_68_code_c5 6 rfl rfl
theorem wp_md_tries_d152 : decode prog_13_method_68_code 152 = .ok (.getfield 139, 3) := wt_op180 wb16m6_prog_13_method_68_code_c5 7 rfl rfl rfl
theorem wp_md_tries_d155 : decode prog_13_method_68_code 155 = .ok (.iload_n 2, 1) := wt_op28 wb16m6_prog_13_method_68_code_c5 10 rfl rfl
theorem wp_md_tries_d156 : decode prog_13_method_68_code 156 = .ok (.iload 5, 2) := wt_op21 wb16m6_prog_13_method_68_code_c5 11 rfl rfl
theorem wp_md_tries_d158 : decode prog_13_method_68_code 158 = .ok (.iastore, 1) := wt_op79 wb16m6_prog_13_method_68_code_c5 13 rfl rfl
theorem wp_md_tries_d159 : decode prog_13_method_68_code 159 = .ok (.aload_n 0, 1) := wt_op42 wb16m6_prog_13_method_68_code_c5 14 rfl rfl
theorem wp_md_tries_d160 : decode prog_13_method_68_code 160 = .ok (.iload_n 1, 1) := wt_op27 wb16m6_prog_13_method_68_code_c5 15 rfl rfl
theorem wp_md_tries_d161 : decode prog_13_method_68_code 161 = .ok (.iload_n 2, 1) := wt_op28 wb16m6_prog_13_method_68_code_c5 16 rfl rfl
theorem wp_md_tries_d162 : decode prog_13_method_68_code 162 = .ok (.iconst 1, 1) := wt_op4 wb16m6_prog_13_method_68_code_c5 17 rfl rfl
theorem wp_md_tries_d163 : decode prog_13_method_68_code 163 = .ok (.iadd, 1) := wt_op96 wb16m6_prog_13_method_68_code_c5 18 rfl rfl
theorem wp_md_tries_d164 : decode prog_13_method_68_code 164 = .ok (.iload_n 3, 1) := wt_op29 wb16m6_prog_13_method_68_code_c5 19 rfl rfl
theorem wp_md_tries_d165 : decode prog_13_method_68_code 165 = .ok (.iload 4, 2) := wt_op21 wb16m6_prog_13_method_68_code_c5 20 rfl rfl
theorem wp_md_tries_d167 : decode prog_13_method_68_code 167 = .ok (.aload_n 0, 1) := wt_op42 wb16m6_prog_13_method_68_code_c5 22 rfl rfl
theorem wp_md_tries_d168 : decode prog_13_method_68_code 168 = .ok (.iload 5, 2) := wt_op21 wb16m6_prog_13_method_68_code_c5 23 rfl rfl
theorem wp_md_tries_d170 : decode prog_13_method_68_code 170 = .ok (.invokevirtual 301, 3) := wt_op182 wb16m6_prog_13_method_68_code_c5 25 rfl rfl rfl
theorem wp_md_tries_d173 : decode prog_13_method_68_code 173 = .ok (.iadd, 1) := wt_op96 wb16m6_prog_13_method_68_code_c6 0 rfl rfl
theorem wp_md_tries_d174 : decode prog_13_method_68_code 174 = .ok (.invokevirtual 352, 3) := wt_op182 wb16m6_prog_13_method_68_code_c6 1 rfl rfl rfl
theorem wp_md_tries_d177 : decode prog_13_method_68_code 177 = .ok (.iinc 5 1, 3) := wt_op132 wb16m6_prog_13_method_68_code_c6 4 rfl rfl rfl
theorem wp_md_tries_d180 : decode prog_13_method_68_code 180 = .ok (.goto (-73), 3) := wt_op167 wb16m6_prog_13_method_68_code_c6 7 rfl rfl rfl
theorem wp_md_tries_d183 : decode prog_13_method_68_code 183 = .ok (.return_, 1) := wt_op177 wb16m6_prog_13_method_68_code_c6 10 rfl rfl
noncomputable def wp_md_tries_B177 (n : Nat) (R : Int32 × Int32 × Int32 × Int32 × wt_St → Option (wt_St)) (x1 : Int32) (x2 : Int32) (x3 : Int32) (x4 : Int32) (x5 : Int32) (K107 : Int32 × wt_St → Option (wt_St)) (σ : wt_St) : Option (wt_St) :=
  K107 ((x5 + (1 : Int32)), σ)
set_option maxRecDepth 100000 in
set_option maxHeartbeats 4000000 in
theorem wp_md_tries_B177_ok {dR : Nat}  {x1 : Int32} {x2 : Int32} {x3 : Int32} {x4 : Int32} {x5 : Int32} {X : wt_X} {n : Nat} {res : wt_St} (hE : wt_Ok X prog_13_method_68_code 6 "WornTypeModel" (dR + 1) 0) (hR : wt_Rt X none none res) (hD : ∀ i, 108 ≤ i → i < 321 → wt_dom (wt_xw X) i)  {R : Int32 × Int32 × Int32 × Int32 × wt_St → Option (wt_St)} (hL0 : 3 ≤ dR) (hRec : ∀ (s : Int32 × Int32 × Int32 × Int32 × wt_St) (q : wt_St), R s = some q → wt_Ctr (wt_xl X) (wt_xw X) wt_y_md_tries prog_13_method_68_code 6 none dR [.ref (wt_ad (wt_xw X) 108), .int s.1, .int s.2.1, .int s.2.2.1, .int s.2.2.2.1] s.2.2.2.2 none q) {K107 : Int32 × wt_St → Option (wt_St)} (hK107 : ∀ s : Int32 × wt_St, K107 s = some res → wt_V X 0 s.2 107 [some (.ref (wt_ad (wt_xw X) 108)), some (.int x1), some (.int x2), some (.int x3), some (.int x4), some (.int s.1)] []) {σ : wt_St} (h : wp_md_tries_B177 n R x1 x2 x3 x4 x5 K107 σ = some res) : wt_V X 0 σ 177 [some (.ref (wt_ad (wt_xw X) 108)), some (.int x1), some (.int x2), some (.int x3), some (.int x4), some (.int x5)] [] := by
  unfold wp_md_tries_B177 at h
  refine wt_iinc hE (x5 + (1 : Int32)) [some (.ref (wt_ad (wt_xw X) 108)), some (.int x1), some (.int x2), some (.int x3), some (.int x4), some (.int (x5 + (1 : Int32)))] wp_md_tries_d177 (by decide) rfl rfl rfl ?_
  refine wt_goto hE 107 wp_md_tries_d180 rfl ?_
  exact hK107 ((x5 + (1 : Int32)), σ) h
noncomputable def wp_md_tries_B151 (n : Nat) (R : Int32 × Int32 × Int32 × Int32 × wt_St → Option (wt_St)) (x1 : Int32) (x2 : Int32) (x3 : Int32) (x4 : Int32) (x5 : Int32) (K107 : Int32 × wt_St → Option (wt_St)) (σ : wt_St) : Option (wt_St) :=
  if x2 < 0 ∨ 12 ≤ Int32.toNatClampNeg x2 then none else
  (wp_md_priceOf n x5 (wt_sa σ 319 (Int32.toNatClampNeg x2) x5)).bind fun q9 =>
  (R (x1, (x2 + (1 : Int32)), x3, (x4 + q9.1), q9.2)).bind fun q10 =>
  wp_md_tries_B177 n R x1 x2 x3 x4 x5 K107 q10
set_option maxRecDepth 100000 in
set_option maxHeartbeats 4000000 in
theorem wp_md_tries_B151_ok {dR : Nat}  {x1 : Int32} {x2 : Int32} {x3 : Int32} {x4 : Int32} {x5 : Int32} {X : wt_X} {n : Nat} {res : wt_St} (hE : wt_Ok X prog_13_method_68_code 6 "WornTypeModel" (dR + 1) 0) (hR : wt_Rt X none none res) (hD : ∀ i, 108 ≤ i → i < 321 → wt_dom (wt_xw X) i)  {R : Int32 × Int32 × Int32 × Int32 × wt_St → Option (wt_St)} (hL0 : 3 ≤ dR) (hRec : ∀ (s : Int32 × Int32 × Int32 × Int32 × wt_St) (q : wt_St), R s = some q → wt_Ctr (wt_xl X) (wt_xw X) wt_y_md_tries prog_13_method_68_code 6 none dR [.ref (wt_ad (wt_xw X) 108), .int s.1, .int s.2.1, .int s.2.2.1, .int s.2.2.2.1] s.2.2.2.2 none q) {K107 : Int32 × wt_St → Option (wt_St)} (hK107 : ∀ s : Int32 × wt_St, K107 s = some res → wt_V X 0 s.2 107 [some (.ref (wt_ad (wt_xw X) 108)), some (.int x1), some (.int x2), some (.int x3), some (.int x4), some (.int s.1)] []) {σ : wt_St} (h : wp_md_tries_B151 n R x1 x2 x3 x4 x5 K107 σ = some res) : wt_V X 0 σ 151 [some (.ref (wt_ad (wt_xw X) 108)), some (.int x1), some (.int x2), some (.int x3), some (.int x4), some (.int x5)] [] := by
  unfold wp_md_tries_B151 at h
  refine wt_aload_n hE wp_md_tries_d151 rfl ?_
  refine wt_getr hE (r := 319) wt_lf_md_139 (hD 108 (by decide) (by decide)) wt_L108 rfl wp_md_tries_d152 ?_
  refine wt_iload_n hE wp_md_tries_d155 rfl ?_
  refine wt_iload hE wp_md_tries_d156 rfl ?_
  obtain ⟨g8, h⟩ := wt_gd h
  refine wt_iast hE (hD 319 (by decide) (by decide)) wt_L319 g8 wp_md_tries_d158 ?_
  refine wt_aload_n hE wp_md_tries_d159 rfl ?_
  refine wt_iload_n hE wp_md_tries_d160 rfl ?_
  refine wt_iload_n hE wp_md_tries_d161 rfl ?_
  refine wt_iconst hE (1 : Int32) wp_md_tries_d162 wt_ci_1 ?_
  refine wt_iadd hE wp_md_tries_d163 ?_
  refine wt_iload_n hE wp_md_tries_d164 rfl ?_
  refine wt_iload hE wp_md_tries_d165 rfl ?_
  refine wt_aload_n hE wp_md_tries_d167 rfl ?_
  refine wt_iload hE wp_md_tries_d168 rfl ?_
  obtain ⟨q9, hq9, h⟩ := wt_bi h
  refine wt_callVi hE [.int x5] wt_lm_md_301 wt_ya_md_priceOf (wp_md_priceOf_ok hD hq9) (by omega) (hD 108 (by decide) (by decide)) wt_L108 rfl rfl rfl (Nat.le_of_ble_eq_true rfl) (Nat.zero_le _) wp_md_tries_d170 (fun hbq9 => ?_)
  refine wt_iadd hE wp_md_tries_d173 ?_
  obtain ⟨q10, hq10, h⟩ := wt_bi h
  refine wt_callVv hE [.int x1, .int (x2 + (1 : Int32)), .int x3, .int (x4 + q9.1)] wt_lm_md_352 wt_ya_md_tries (hRec _ _ hq10) (by omega) (hD 108 (by decide) (by decide)) wt_L108 rfl rfl rfl (Nat.le_of_ble_eq_true rfl) (Nat.zero_le _) wp_md_tries_d174 ?_
  exact wp_md_tries_B177_ok hE hR hD hL0 hRec hK107 h
noncomputable def wp_md_tries_B107 (n : Nat) (R : Int32 × Int32 × Int32 × Int32 × wt_St → Option (wt_St)) (x1 : Int32) (x2 : Int32) (x3 : Int32) (x4 : Int32) (K107 : Int32 × wt_St → Option (wt_St)) (s : Int32 × wt_St) : Option (wt_St) :=
  if (wt_gf s.2 108 28) ≤ s.1 then
    some s.2
  else
    (wp_md_isOf n s.1 x1 x2 s.2).bind fun q5 =>
    if q5.1 = 0 then
      wp_md_tries_B177 n R x1 x2 x3 x4 s.1 K107 q5.2
    else
      if x2 ≤ 0 then
        wp_md_tries_B151 n R x1 x2 x3 x4 s.1 K107 q5.2
      else
        if (x2 - (1 : Int32)) < 0 ∨ 12 ≤ Int32.toNatClampNeg (x2 - (1 : Int32)) then none else
        (wp_md_mayFollow n (wt_ga q5.2 319 (Int32.toNatClampNeg (x2 - (1 : Int32)))) s.1 q5.2).bind fun q12 =>
        if q12.1 = 0 then
          wp_md_tries_B177 n R x1 x2 x3 x4 s.1 K107 q12.2
        else
          wp_md_tries_B151 n R x1 x2 x3 x4 s.1 K107 q12.2
set_option maxRecDepth 100000 in
set_option maxHeartbeats 4000000 in
theorem wp_md_tries_B107_ok {dR : Nat}  {x1 : Int32} {x2 : Int32} {x3 : Int32} {x4 : Int32} {X : wt_X} {n : Nat} {res : wt_St} (hE : wt_Ok X prog_13_method_68_code 6 "WornTypeModel" (dR + 1) 0) (hR : wt_Rt X none none res) (hD : ∀ i, 108 ≤ i → i < 321 → wt_dom (wt_xw X) i)  {R : Int32 × Int32 × Int32 × Int32 × wt_St → Option (wt_St)} (hL0 : 3 ≤ dR) (hRec : ∀ (s : Int32 × Int32 × Int32 × Int32 × wt_St) (q : wt_St), R s = some q → wt_Ctr (wt_xl X) (wt_xw X) wt_y_md_tries prog_13_method_68_code 6 none dR [.ref (wt_ad (wt_xw X) 108), .int s.1, .int s.2.1, .int s.2.2.1, .int s.2.2.2.1] s.2.2.2.2 none q) {K107 : Int32 × wt_St → Option (wt_St)} (hK107 : ∀ s : Int32 × wt_St, K107 s = some res → wt_V X 0 s.2 107 [some (.ref (wt_ad (wt_xw X) 108)), some (.int x1), some (.int x2), some (.int x3), some (.int x4), some (.int s.1)] []) {s : Int32 × wt_St} (h : wp_md_tries_B107 n R x1 x2 x3 x4 K107 s = some res) : wt_V X 0 s.2 107 [some (.ref (wt_ad (wt_xw X) 108)), some (.int x1), some (.int x2), some (.int x3), some (.int x4), some (.int s.1)] [] := by
  unfold wp_md_tries_B107 at h
  refine wt_iload hE wp_md_tries_d107 rfl ?_
  refine wt_aload_n hE wp_md_tries_d109 rfl ?_
  refine wt_geti hE wt_lf_md_259 (hD 108 (by decide) (by decide)) wt_L108 rfl wp_md_tries_d110 ?_
  refine wt_icmp_ge hE 183 wp_md_tries_d113 rfl (fun c4 => ?_) (fun c4 => ?_)
  · have h := wt_ip c4 h
    cases h
    exact wt_vret hE hR wp_md_tries_d183
  · have h := wt_in c4 h
    refine wt_aload_n hE wp_md_tries_d116 rfl ?_
    refine wt_iload hE wp_md_tries_d117 rfl ?_
    refine wt_iload_n hE wp_md_tries_d119 rfl ?_
    refine wt_iload_n hE wp_md_tries_d120 rfl ?_
    obtain ⟨q5, hq5, h⟩ := wt_bi h
    refine wt_callVi hE [.int s.1, .int x1, .int x2] wt_lm_md_339 wt_ya_md_isOf (wp_md_isOf_ok hD hq5) (by omega) (hD 108 (by decide) (by decide)) wt_L108 rfl rfl rfl (Nat.le_of_ble_eq_true rfl) (Nat.zero_le _) wp_md_tries_d121 (fun hbq5 => ?_)
    refine wt_if_eq hE 177 wp_md_tries_d124 rfl (fun c6 => ?_) (fun c6 => ?_)
    · have h := wt_ip c6 h
      exact wp_md_tries_B177_ok hE hR hD hL0 hRec hK107 h
    · have h := wt_in c6 h
      refine wt_iload_n hE wp_md_tries_d127 rfl ?_
      refine wt_if_le hE 151 wp_md_tries_d128 rfl (fun c7 => ?_) (fun c7 => ?_)
      · have h := wt_ip c7 h
        exact wp_md_tries_B151_ok hE hR hD hL0 hRec hK107 h
      · have h := wt_in c7 h
        refine wt_aload_n hE wp_md_tries_d131 rfl ?_
        refine wt_aload_n hE wp_md_tries_d132 rfl ?_
        refine wt_getr hE (r := 319) wt_lf_md_139 (hD 108 (by decide) (by decide)) wt_L108 rfl wp_md_tries_d133 ?_
        refine wt_iload_n hE wp_md_tries_d136 rfl ?_
        refine wt_iconst hE (1 : Int32) wp_md_tries_d137 wt_ci_1 ?_
        refine wt_isub hE wp_md_tries_d138 ?_
        obtain ⟨g11, h⟩ := wt_gd h
        refine wt_iald hE (hD 319 (by decide) (by decide)) wt_L319 g11 wp_md_tries_d139 ?_
        refine wt_iload hE wp_md_tries_d140 rfl ?_
        obtain ⟨q12, hq12, h⟩ := wt_bi h
        refine wt_callVi hE [.int (wt_ga q5.2 319 (Int32.toNatClampNeg (x2 - (1 : Int32)))), .int s.1] wt_lm_md_342 wt_ya_md_mayFollow (wp_md_mayFollow_ok hD hq12) (by omega) (hD 108 (by decide) (by decide)) wt_L108 rfl rfl rfl (Nat.le_of_ble_eq_true rfl) (Nat.zero_le _) wp_md_tries_d142 (fun hbq12 => ?_)
        refine wt_if_ne hE 151 wp_md_tries_d145 rfl (fun c13 => ?_) (fun c13 => ?_)
        · have h := wt_in c13 h
          exact wp_md_tries_B151_ok hE hR hD hL0 hRec hK107 h
        · have h := wt_ip c13 h
          refine wt_goto hE 177 wp_md_tries_d148 rfl ?_
          exact wp_md_tries_B177_ok hE hR hD hL0 hRec hK107 h
noncomputable def wp_md_tries_B77 (n : Nat) (R : Int32 × Int32 × Int32 × Int32 × wt_St → Option (wt_St)) (x2 : Int32) (K77 : Int32 × wt_St → Option (wt_St)) (s : Int32 × wt_St) : Option (wt_St) :=
  if x2 ≤ s.1 then
    some s.2
  else
    if s.1 < 0 ∨ 12 ≤ Int32.toNatClampNeg s.1 then none else
    if s.1 < 0 ∨ 12 ≤ Int32.toNatClampNeg s.1 then none else
    K77 ((s.1 + (1 : Int32)), (wt_sa s.2 318 (Int32.toNatClampNeg s.1) (wt_ga s.2 319 (Int32.toNatClampNeg s.1))))
set_option maxRecDepth 100000 in
set_option maxHeartbeats 4000000 in
theorem wp_md_tries_B77_ok {dR : Nat}  {x2 : Int32} {X : wt_X} {n : Nat} {res : wt_St} (hE : wt_Ok X prog_13_method_68_code 6 "WornTypeModel" (dR + 1) 0) (hR : wt_Rt X none none res) (hD : ∀ i, 108 ≤ i → i < 321 → wt_dom (wt_xw X) i)  {R : Int32 × Int32 × Int32 × Int32 × wt_St → Option (wt_St)} (hL0 : 3 ≤ dR) (hRec : ∀ (s : Int32 × Int32 × Int32 × Int32 × wt_St) (q : wt_St), R s = some q → wt_Ctr (wt_xl X) (wt_xw X) wt_y_md_tries prog_13_method_68_code 6 none dR [.ref (wt_ad (wt_xw X) 108), .int s.1, .int s.2.1, .int s.2.2.1, .int s.2.2.2.1] s.2.2.2.2 none q) {K77 : Int32 × wt_St → Option (wt_St)} (hK77 : ∀ s : Int32 × wt_St, K77 s = some res → wt_V X 0 s.2 77 [some (.ref (wt_ad (wt_xw X) 108)), none, some (.int x2), none, none, some (.int s.1)] []) {s : Int32 × wt_St} (h : wp_md_tries_B77 n R x2 K77 s = some res) : wt_V X 0 s.2 77 [some (.ref (wt_ad (wt_xw X) 108)), none, some (.int x2), none, none, some (.int s.1)] [] := by
  unfold wp_md_tries_B77 at h
  refine wt_iload hE wp_md_tries_d77 rfl ?_
  refine wt_iload_n hE wp_md_tries_d79 rfl ?_
  refine wt_icmp_ge hE 103 wp_md_tries_d80 rfl (fun c18 => ?_) (fun c18 => ?_)
  · have h := wt_ip c18 h
    cases h
    exact wt_vret hE hR wp_md_tries_d103
  · have h := wt_in c18 h
    refine wt_aload_n hE wp_md_tries_d83 rfl ?_
    refine wt_getr hE (r := 318) wt_lf_md_136 (hD 108 (by decide) (by decide)) wt_L108 rfl wp_md_tries_d84 ?_
    refine wt_iload hE wp_md_tries_d87 rfl ?_
    refine wt_aload_n hE wp_md_tries_d89 rfl ?_
    refine wt_getr hE (r := 319) wt_lf_md_139 (hD 108 (by decide) (by decide)) wt_L108 rfl wp_md_tries_d90 ?_
    refine wt_iload hE wp_md_tries_d93 rfl ?_
    obtain ⟨g19, h⟩ := wt_gd h
    refine wt_iald hE (hD 319 (by decide) (by decide)) wt_L319 g19 wp_md_tries_d95 ?_
    obtain ⟨g20, h⟩ := wt_gd h
    refine wt_iast hE (hD 318 (by decide) (by decide)) wt_L318 g20 wp_md_tries_d96 ?_
    refine wt_iinc hE (s.1 + (1 : Int32)) [some (.ref (wt_ad (wt_xw X) 108)), none, some (.int x2), none, none, some (.int (s.1 + (1 : Int32)))] wp_md_tries_d97 (by decide) rfl rfl rfl ?_
    refine wt_goto hE 77 wp_md_tries_d100 rfl ?_
    exact hK77 ((s.1 + (1 : Int32)), (wt_sa s.2 318 (Int32.toNatClampNeg s.1) (wt_ga s.2 319 (Int32.toNatClampNeg s.1)))) h
noncomputable def wp_md_tries_B35 (n : Nat) (R : Int32 × Int32 × Int32 × Int32 × wt_St → Option (wt_St)) (x2 : Int32) (x3 : Int32) (x4 : Int32) (K35 : Int32 × wt_St → Option (wt_St)) (s : Int32 × wt_St) : Option (wt_St) :=
  if x2 ≤ s.1 then
    (wp_md_lacking n x3 s.2).bind fun q16 =>
    if q16.1 = (-1 : Int32) then
      wt_it (wp_md_tries_B77 n R x2) n ((0 : Int32), (wt_sf q16.2 108 60 x4))
    else
      some q16.2
  else
    if s.1 < 0 ∨ 12 ≤ Int32.toNatClampNeg s.1 then none else
    (wp_md_needsWord n (wt_ga s.2 319 (Int32.toNatClampNeg s.1)) s.2).bind fun q22 =>
    K35 ((s.1 + (1 : Int32)), q22)
set_option maxRecDepth 100000 in
set_option maxHeartbeats 4000000 in
theorem wp_md_tries_B35_ok {dR : Nat}  {x2 : Int32} {x3 : Int32} {x4 : Int32} {X : wt_X} {n : Nat} {res : wt_St} (hE : wt_Ok X prog_13_method_68_code 6 "WornTypeModel" (dR + 1) 0) (hR : wt_Rt X none none res) (hD : ∀ i, 108 ≤ i → i < 321 → wt_dom (wt_xw X) i)  {R : Int32 × Int32 × Int32 × Int32 × wt_St → Option (wt_St)} (hL0 : 3 ≤ dR) (hRec : ∀ (s : Int32 × Int32 × Int32 × Int32 × wt_St) (q : wt_St), R s = some q → wt_Ctr (wt_xl X) (wt_xw X) wt_y_md_tries prog_13_method_68_code 6 none dR [.ref (wt_ad (wt_xw X) 108), .int s.1, .int s.2.1, .int s.2.2.1, .int s.2.2.2.1] s.2.2.2.2 none q) {K35 : Int32 × wt_St → Option (wt_St)} (hK35 : ∀ s : Int32 × wt_St, K35 s = some res → wt_V X 0 s.2 35 [some (.ref (wt_ad (wt_xw X) 108)), none, some (.int x2), some (.int x3), some (.int x4), some (.int s.1)] []) {s : Int32 × wt_St} (h : wp_md_tries_B35 n R x2 x3 x4 K35 s = some res) : wt_V X 0 s.2 35 [some (.ref (wt_ad (wt_xw X) 108)), none, some (.int x2), some (.int x3), some (.int x4), some (.int s.1)] [] := by
  unfold wp_md_tries_B35 at h
  refine wt_iload hE wp_md_tries_d35 rfl ?_
  refine wt_iload_n hE wp_md_tries_d37 rfl ?_
  refine wt_icmp_ge hE 58 wp_md_tries_d38 rfl (fun c15 => ?_) (fun c15 => ?_)
  · have h := wt_ip c15 h
    refine wt_aload_n hE wp_md_tries_d58 rfl ?_
    refine wt_iload_n hE wp_md_tries_d59 rfl ?_
    obtain ⟨q16, hq16, h⟩ := wt_bi h
    refine wt_callVi hE [.int x3] wt_lm_md_292 wt_ya_md_lacking (wp_md_lacking_ok hD hq16) (by omega) (hD 108 (by decide) (by decide)) wt_L108 rfl rfl rfl (Nat.le_of_ble_eq_true rfl) (Nat.zero_le _) wp_md_tries_d60 (fun hbq16 => ?_)
    refine wt_iconst hE (-1 : Int32) wp_md_tries_d63 wt_ci_m1 ?_
    refine wt_icmp_eq hE 68 wp_md_tries_d64 rfl (fun c17 => ?_) (fun c17 => ?_)
    · have h := wt_ip c17 h
      refine wt_aload_n hE wp_md_tries_d68 rfl ?_
      refine wt_iload hE wp_md_tries_d69 rfl ?_
      refine wt_puti hE wt_lf_md_349 (hD 108 (by decide) (by decide)) wt_L108 rfl (fun q hq => by cases hq; rfl) wp_md_tries_d71 ?_
      refine wt_iconst hE (0 : Int32) wp_md_tries_d74 wt_ci_0 ?_
      refine wt_istore hE [some (.ref (wt_ad (wt_xw X) 108)), none, some (.int x2), some (.int x3), some (.int x4), some (.int (0 : Int32))] wp_md_tries_d75 (Nat.le_of_ble_eq_true rfl) rfl ?_
      refine wt_wk [true, true, true, false, false, true] rfl ?_
      exact wt_it_ind (fun z => wt_V X 0 z.2 77 [some (.ref (wt_ad (wt_xw X) 108)), none, some (.int x2), none, none, some (.int z.1)] []) (fun K hK z h => wp_md_tries_B77_ok hE hR hD hL0 hRec hK h) n ((0 : Int32), (wt_sf q16.2 108 60 x4)) h
    · have h := wt_in c17 h
      cases h
      exact wt_vret hE hR wp_md_tries_d67
  · have h := wt_in c15 h
    refine wt_aload_n hE wp_md_tries_d41 rfl ?_
    refine wt_aload_n hE wp_md_tries_d42 rfl ?_
    refine wt_getr hE (r := 319) wt_lf_md_139 (hD 108 (by decide) (by decide)) wt_L108 rfl wp_md_tries_d43 ?_
    refine wt_iload hE wp_md_tries_d46 rfl ?_
    obtain ⟨g21, h⟩ := wt_gd h
    refine wt_iald hE (hD 319 (by decide) (by decide)) wt_L319 g21 wp_md_tries_d48 ?_
    obtain ⟨q22, hq22, h⟩ := wt_bi h
    refine wt_callVv hE [.int (wt_ga s.2 319 (Int32.toNatClampNeg s.1))] wt_lm_md_286 wt_ya_md_needsWord (wp_md_needsWord_ok hD hq22) (by omega) (hD 108 (by decide) (by decide)) wt_L108 rfl rfl rfl (Nat.le_of_ble_eq_true rfl) (Nat.zero_le _) wp_md_tries_d49 ?_
    refine wt_iinc hE (s.1 + (1 : Int32)) [some (.ref (wt_ad (wt_xw X) 108)), none, some (.int x2), some (.int x3), some (.int x4), some (.int (s.1 + (1 : Int32)))] wp_md_tries_d52 (by decide) rfl rfl rfl ?_
    refine wt_goto hE 35 wp_md_tries_d55 rfl ?_
    exact hK35 ((s.1 + (1 : Int32)), q22) h
noncomputable def wp_md_tries_B18 (n : Nat) (R : Int32 × Int32 × Int32 × Int32 × wt_St → Option (wt_St)) (x1 : Int32) (x2 : Int32) (x3 : Int32) (x4 : Int32) (σ : wt_St) : Option (wt_St) :=
  if x1 < 0 ∨ 8 ≤ Int32.toNatClampNeg x1 then none else
  if x2 = (wt_ga σ 253 (Int32.toNatClampNeg x1)) then
    (wp_md_needsNone n σ).bind fun q14 =>
    wt_it (wp_md_tries_B35 n R x2 x3 x4) n ((0 : Int32), q14)
  else
    wt_it (wp_md_tries_B107 n R x1 x2 x3 x4) n ((0 : Int32), σ)
set_option maxRecDepth 100000 in
set_option maxHeartbeats 4000000 in
theorem wp_md_tries_B18_ok {dR : Nat}  {x1 : Int32} {x2 : Int32} {x3 : Int32} {x4 : Int32} {X : wt_X} {n : Nat} {res : wt_St} (hE : wt_Ok X prog_13_method_68_code 6 "WornTypeModel" (dR + 1) 0) (hR : wt_Rt X none none res) (hD : ∀ i, 108 ≤ i → i < 321 → wt_dom (wt_xw X) i)  {R : Int32 × Int32 × Int32 × Int32 × wt_St → Option (wt_St)} (hL0 : 3 ≤ dR) (hRec : ∀ (s : Int32 × Int32 × Int32 × Int32 × wt_St) (q : wt_St), R s = some q → wt_Ctr (wt_xl X) (wt_xw X) wt_y_md_tries prog_13_method_68_code 6 none dR [.ref (wt_ad (wt_xw X) 108), .int s.1, .int s.2.1, .int s.2.2.1, .int s.2.2.2.1] s.2.2.2.2 none q) {σ : wt_St} (h : wp_md_tries_B18 n R x1 x2 x3 x4 σ = some res) : wt_V X 0 σ 18 [some (.ref (wt_ad (wt_xw X) 108)), some (.int x1), some (.int x2), some (.int x3), some (.int x4), none] [] := by
  unfold wp_md_tries_B18 at h
  refine wt_iload_n hE wp_md_tries_d18 rfl ?_
  refine wt_aload_n hE wp_md_tries_d19 rfl ?_
  refine wt_getr hE (r := 253) wt_lf_md_88 (hD 108 (by decide) (by decide)) wt_L108 rfl wp_md_tries_d20 ?_
  refine wt_iload_n hE wp_md_tries_d23 rfl ?_
  obtain ⟨g2, h⟩ := wt_gd h
  refine wt_iald hE (hD 253 (by decide) (by decide)) wt_L253 g2 wp_md_tries_d24 ?_
  refine wt_icmp_ne hE 104 wp_md_tries_d25 rfl (fun c3 => ?_) (fun c3 => ?_)
  · have h := wt_in c3 h
    refine wt_iconst hE (0 : Int32) wp_md_tries_d104 wt_ci_0 ?_
    refine wt_istore hE [some (.ref (wt_ad (wt_xw X) 108)), some (.int x1), some (.int x2), some (.int x3), some (.int x4), some (.int (0 : Int32))] wp_md_tries_d105 (Nat.le_of_ble_eq_true rfl) rfl ?_
    exact wt_it_ind (fun z => wt_V X 0 z.2 107 [some (.ref (wt_ad (wt_xw X) 108)), some (.int x1), some (.int x2), some (.int x3), some (.int x4), some (.int z.1)] []) (fun K hK z h => wp_md_tries_B107_ok hE hR hD hL0 hRec hK h) n ((0 : Int32), σ) h
  · have h := wt_ip c3 h
    refine wt_aload_n hE wp_md_tries_d28 rfl ?_
    obtain ⟨q14, hq14, h⟩ := wt_bi h
    refine wt_callVv hE [] wt_lm_md_283 wt_ya_md_needsNone (wp_md_needsNone_ok hD hq14) (by omega) (hD 108 (by decide) (by decide)) wt_L108 rfl rfl rfl (Nat.le_of_ble_eq_true rfl) (Nat.zero_le _) wp_md_tries_d29 ?_
    refine wt_iconst hE (0 : Int32) wp_md_tries_d32 wt_ci_0 ?_
    refine wt_istore hE [some (.ref (wt_ad (wt_xw X) 108)), some (.int x1), some (.int x2), some (.int x3), some (.int x4), some (.int (0 : Int32))] wp_md_tries_d33 (Nat.le_of_ble_eq_true rfl) rfl ?_
    refine wt_wk [true, false, true, true, true, true] rfl ?_
    exact wt_it_ind (fun z => wt_V X 0 z.2 35 [some (.ref (wt_ad (wt_xw X) 108)), none, some (.int x2), some (.int x3), some (.int x4), some (.int z.1)] []) (fun K hK z h => wp_md_tries_B35_ok hE hR hD hL0 hRec hK h) n ((0 : Int32), q14) h
noncomputable def wp_md_tries_b (n : Nat) (R : Int32 × Int32 × Int32 × Int32 × wt_St → Option (wt_St)) (x1 : Int32) (x2 : Int32) (x3 : Int32) (x4 : Int32) (σ : wt_St) : Option (wt_St) :=
  if (wt_gf σ 108 60) = (-1 : Int32) then
    wp_md_tries_B18 n R x1 x2 x3 x4 σ
  else
    if x4 < (wt_gf σ 108 60) then
      wp_md_tries_B18 n R x1 x2 x3 x4 σ
    else
      some σ
set_option maxRecDepth 100000 in
set_option maxHeartbeats 4000000 in
theorem wp_md_tries_b_ok {l : Launch} {w : wt_E} {n : Nat} {x1 : Int32} {x2 : Int32} {x3 : Int32} {x4 : Int32} (hD : ∀ i, 108 ≤ i → i < 321 → wt_dom w i) {R : Int32 × Int32 × Int32 × Int32 × wt_St → Option (wt_St)} {dR : Nat} (hL0 : 3 ≤ dR) (hRec : ∀ (s : Int32 × Int32 × Int32 × Int32 × wt_St) (q : wt_St), R s = some q → wt_Ctr l w wt_y_md_tries prog_13_method_68_code 6 none dR [.ref (wt_ad w 108), .int s.1, .int s.2.1, .int s.2.2.1, .int s.2.2.2.1] s.2.2.2.2 none q) {σ : wt_St} {q : wt_St} (h : wp_md_tries_b n R x1 x2 x3 x4 σ = some q) : wt_Ctr l w wt_y_md_tries prog_13_method_68_code 6 none (dR + 1) [.ref (wt_ad w 108), .int x1, .int x2, .int x3, .int x4] σ none q := by
  refine wt_ctr wt_pl_md_tries rfl (Nat.le_of_ble_eq_true rfl) [some (.ref (wt_ad w 108)), some (.int x1), some (.int x2), some (.int x3), some (.int x4), none] rfl ?_
  intro X hXl hXw hE hR
  subst hXl
  subst hXw
  have hE : wt_Ok X prog_13_method_68_code 6 "WornTypeModel" (dR + 1) 0 := hE
  unfold wp_md_tries_b at h
  refine wt_aload_n hE wp_md_tries_d0 rfl ?_
  refine wt_geti hE wt_lf_md_349 (hD 108 (by decide) (by decide)) wt_L108 rfl wp_md_tries_d1 ?_
  refine wt_iconst hE (-1 : Int32) wp_md_tries_d4 wt_ci_m1 ?_
  refine wt_icmp_eq hE 18 wp_md_tries_d5 rfl (fun c1 => ?_) (fun c1 => ?_)
  · have h := wt_ip c1 h
    exact wp_md_tries_B18_ok hE hR hD hL0 hRec h
  · have h := wt_in c1 h
    refine wt_iload hE wp_md_tries_d8 rfl ?_
    refine wt_aload_n hE wp_md_tries_d10 rfl ?_
    refine wt_geti hE wt_lf_md_349 (hD 108 (by decide) (by decide)) wt_L108 rfl wp_md_tries_d11 ?_
    refine wt_icmp_lt hE 18 wp_md_tries_d14 rfl (fun c23 => ?_) (fun c23 => ?_)
    · have h := wt_ip c23 h
      exact wp_md_tries_B18_ok hE hR hD hL0 hRec h
    · have h := wt_in c23 h
      cases h
      exact wt_vret hE hR wp_md_tries_d17
noncomputable def wp_md_tries (n : Nat) (x1 : Int32) (x2 : Int32) (x3 : Int32) (x4 : Int32) (σ : wt_St) : Option (wt_St) := wt_it (fun R s => wp_md_tries_b n R s.1 s.2.1 s.2.2.1 s.2.2.2.1 s.2.2.2.2) 16 (x1, x2, x3, x4, σ)
set_option maxRecDepth 100000 in
theorem wp_md_tries_it {l : Launch} {w : wt_E} {n : Nat} (hD : ∀ i, 108 ≤ i → i < 321 → wt_dom w i) : ∀ (k : Nat) (s : Int32 × Int32 × Int32 × Int32 × wt_St) (q : wt_St), wt_it (fun R s => wp_md_tries_b n R s.1 s.2.1 s.2.2.1 s.2.2.2.1 s.2.2.2.2) k s = some q → wt_Ctr l w wt_y_md_tries prog_13_method_68_code 6 none (3 + k) [.ref (wt_ad w 108), .int s.1, .int s.2.1, .int s.2.2.1, .int s.2.2.2.1] s.2.2.2.2 none q := by
  intro k
  induction k with
  | zero => intro s q  h; cases h
  | succ k ih =>
    intro s q  h
    exact wp_md_tries_b_ok hD (R := wt_it (fun R s => wp_md_tries_b n R s.1 s.2.1 s.2.2.1 s.2.2.2.1 s.2.2.2.2) k) (dR := 3 + k) (by omega) ih h
set_option maxRecDepth 100000 in
theorem wp_md_tries_ok {l : Launch} {w : wt_E} {n : Nat} {x1 : Int32} {x2 : Int32} {x3 : Int32} {x4 : Int32} (hD : ∀ i, 108 ≤ i → i < 321 → wt_dom w i) {σ : wt_St} {q : wt_St} (h : wp_md_tries n x1 x2 x3 x4 σ = some q) : wt_Ctr l w wt_y_md_tries prog_13_method_68_code 6 none 19 [.ref (wt_ad w 108), .int x1, .int x2, .int x3, .int x4] σ none q := by
  unfold wp_md_tries at h
  exact wp_md_tries_it hD 16 (x1, x2, x3, x4, σ) q h
def wb16m6_prog_13_method_69_code_r7 : List (List Nat) := [27, 46, 4, 100, 184, 0, 185, 153, 0, 12, 42, 180, 0, 136, 29, 46, 167, 0, 4, 2, 172] :: []
def wb16m6_prog_13_method_69_code_r6 : List (List Nat) := [3, 182, 1, 96, 21, 4, 153, 0, 11, 42, 180, 1, 93, 2, 160, 0, 10, 42, 180, 1, 93, 167, 0, 29, 29, 3, 42, 180, 0, 88] :: wb16m6_prog_13_method_69_code_r7
def wb16m6_prog_13_method_69_code_r5 : List (List Nat) := [54, 5, 132, 6, 1, 167, 255, 175, 21, 5, 17, 16, 0, 164, 0, 6, 16, 254, 172, 42, 2, 181, 1, 93, 42, 27, 3, 28] :: wb16m6_prog_13_method_69_code_r6
def wb16m6_prog_13_method_69_code_r4 : List (List Nat) := [132, 8, 1, 167, 255, 222, 21, 5, 21, 7, 104, 17, 16, 0, 164, 0, 9, 17, 19, 136, 167, 0, 8, 21, 5, 21, 7, 104] :: wb16m6_prog_13_method_69_code_r5
def wb16m6_prog_13_method_69_code_r3 : List (List Nat) := [180, 1, 3, 162, 0, 31, 21, 7, 42, 21, 8, 27, 21, 6, 182, 1, 83, 153, 0, 7, 4, 167, 0, 4, 3, 96, 54, 7] :: wb16m6_prog_13_method_69_code_r4
def wb16m6_prog_13_method_69_code_r2 : List (List Nat) := [3, 172, 4, 54, 5, 3, 54, 6, 21, 6, 42, 180, 0, 88, 27, 46, 162, 0, 76, 3, 54, 7, 3, 54, 8, 21, 8, 42] :: wb16m6_prog_13_method_69_code_r3
def wb16m6_prog_13_method_69_code_r1 : List (List Nat) := [184, 1, 57, 153, 0, 13, 21, 4, 3, 4, 184, 0, 185, 154, 0, 7, 4, 167, 0, 4, 3, 5, 182, 0, 230, 153, 0, 5] :: wb16m6_prog_13_method_69_code_r2
def wb16m6_prog_13_method_69_code_r0 : List (List Nat) := [42, 3, 181, 0, 151, 42, 42, 27, 182, 1, 51, 154, 0, 7, 4, 167, 0, 4, 3, 4, 182, 0, 230, 154, 0, 33, 42, 28] :: wb16m6_prog_13_method_69_code_r1
set_option maxRecDepth 100000 in
theorem wb16m6_prog_13_method_69_code_c0 : wt_cs prog_13_method_69_code 0 wb16m6_prog_13_method_69_code_r0 := wt_cs_of (by decide +kernel)
theorem wb16m6_prog_13_method_69_code_c1 : wt_cs prog_13_method_69_code 28 wb16m6_prog_13_method_69_code_r1 := wt_cs_tl (m := 28) wb16m6_prog_13_method_69_code_c0 rfl rfl
theorem wb16m6_prog_13_method_69_code_c2 : wt_cs prog_13_method_69_code 56 wb16m6_prog_13_method_69_code_r2 := wt_cs_tl (m := 28) wb16m6_prog_13_method_69_code_c1 rfl rfl
theorem wb16m6_prog_13_method_69_code_c3 : wt_cs prog_13_method_69_code 84 wb16m6_prog_13_method_69_code_r3 := wt_cs_tl (m := 28) wb16m6_prog_13_method_69_code_c2 rfl rfl
theorem wb16m6_prog_13_method_69_code_c4 : wt_cs prog_13_method_69_code 112 wb16m6_prog_13_method_69_code_r4 := wt_cs_tl (m := 28) wb16m6_prog_13_method_69_code_c3 rfl rfl
theorem wb16m6_prog_13_method_69_code_c5 : wt_cs prog_13_method_69_code 140 wb16m6_prog_13_method_69_code_r5 := wt_cs_tl (m := 28) wb16m6_prog_13_method_69_code_c4 rfl rfl
theorem wb16m6_prog_13_method_69_code_c6 : wt_cs prog_13_method_69_code 168 wb16m6_prog_13_method_69_code_r6 := wt_cs_tl (m := 28) wb16m6_prog_13_method_69_code_c5 rfl rfl
theorem wb16m6_prog_13_method_69_code_c7 : wt_cs prog_13_method_69_code 198 wb16m6_prog_13_method_69_code_r7 := wt_cs_tl (m := 30) wb16m6_prog_13_method_69_code_c6 rfl rfl
theorem wp_md_fitting_d0 : decode prog_13_method_69_code 0 = .ok (.aload_n 0, 1) := wt_op42 wb16m6_prog_13_method_69_code_c0 0 rfl rfl
theorem wp_md_fitting_d1 : decode prog_13_method_69_code 1 = .ok (.iconst 0, 1) := wt_op3 wb16m6_prog_13_method_69_code_c0 1 rfl rfl
theorem wp_md_fitting_d2 : decode prog_13_method_69_code 2 = .ok (.putfield 151, 3) := wt_op181 wb16m6_prog_13_method_69_code_c0 2 rfl rfl rfl
theorem wp_md_fitting_d5 : decode prog_13_method_69_code 5 = .ok (.aload_n 0, 1) := wt_op42 wb16m6_prog_13_method_69_code_c0 5 rfl rfl
theorem wp_md_fitting_d6 : decode prog_13_method_69_code 6 = .ok (.aload_n 0, 1) := wt_op42 wb16m6_prog_13_method_69_code_c0 6 rfl rfl
theorem wp_md_fitting_d7 : decode prog_13_method_69_code 7 = .ok (.iload_n 1, 1) := wt_op27 wb16m6_prog_13_method_69_code_c0 7 rfl rfl
theorem wp_md_fitting_d8 : decode prog_13_method_69_code 8 = .ok (.invokevirtual 307, 3) := wt_op182 wb16m6_prog_13_method_69_code_c0 8 rfl rfl rfl
theorem wp_md_fitting_d11 : decode prog_13_method_69_code 11 = .ok (.ifCond .ne 7, 3) := wt_op154 wb16m6_prog_13_method_69_code_c0 11 rfl rfl rfl
theorem wp_md_fitting_d14 : decode prog_13_method_69_code 14 = .ok (.iconst 1, 1) := wt_op4 wb16m6_prog_13_method_69_code_c0 14 rfl rfl
theorem wp_md_fitting_d15 : decode prog_13_method_69_code 15 = .ok (.goto 4, 3) := wt_op167 wb16m6_prog_13_method_69_code_c0 15 rfl rfl rfl
theorem wp_md_fitting_d18 : decode prog_13_method_69_code 18 = .ok (.iconst 0, 1) := wt_op3 wb16m6_prog_13_method_69_code_c0 18 rfl rfl
theorem wp_md_fitting_d19 : decode prog_13_method_69_code 19 = .ok (.iconst 1, 1) := wt_op4 wb16m6_prog_13_method_69_code_c0 19 rfl rfl
theorem wp_md_fitting_d20 : decode prog_13_method_69_code 20 = .ok (.invokevirtual 230, 3) := wt_op182 wb16m6_prog_13_method_69_code_c0 20 rfl rfl rfl
theorem wp_md_fitting_d23 : decode prog_13_method_69_code 23 = .ok (.ifCond .ne 33, 3) := wt_op154 wb16m6_prog_13_method_69_code_c0 23 rfl rfl rfl
theorem wp_md_fitting_d26 : decode prog_13_method_69_code 26 = .ok (.aload_n 0, 1) := wt_op42 wb16m6_prog_13_method_69_code_c0 26 rfl rfl
theorem wp_md_fitting_d27 : decode prog_13_method_69_code 27 = .ok (.iload_n 2, 1) := wt_op28 wb16m6_prog_13_method_69_code_c0 27 rfl rfl
theorem wp_md_fitting_d28 : decode prog_13_method_69_code 28 = .ok (.invokestatic 313, 3) := wt_op184 wb16m6_prog_13_method_69_code_c1 0 rfl rfl rfl
theorem wp_md_fitting_d31 : decode prog_13_method_69_code 31 = .ok (.ifCond .eq 13, 3) := wt_op153 wb16m6_prog_13_method_69_code_c1 3 rfl rfl rfl
theorem wp_md_fitting_d34 : decode prog_13_method_69_code 34 = .ok (.iload 4, 2) := wt_op21 wb16m6_prog_13_method_69_code_c1 6 rfl rfl
theorem wp_md_fitting_d36 : decode prog_13_method_69_code 36 = .ok (.iconst 0, 1) := wt_op3 wb16m6_prog_13_method_69_code_c1 8 rfl rfl
theorem wp_md_fitting_d37 : decode prog_13_method_69_code 37 = .ok (.iconst 1, 1) := wt_op4 wb16m6_prog_13_method_69_code_c1 9 rfl rfl
theorem wp_md_fitting_d38 : decode prog_13_method_69_code 38 = .ok (.invokestatic 185, 3) := wt_op184 wb16m6_prog_13_method_69_code_c1 10 rfl rfl rfl
theorem wp_md_fitting_d41 : decode prog_13_method_69_code 41 = .ok (.ifCond .ne 7, 3) := wt_op154 wb16m6_prog_13_method_69_code_c1 13 rfl rfl rfl
theorem wp_md_fitting_d44 : decode prog_13_method_69_code 44 = .ok (.iconst 1, 1) := wt_op4 wb16m6_prog_13_method_69_code_c1 16 rfl rfl
theorem wp_md_fitting_d45 : decode prog_13_method_69_code 45 = .ok (.goto 4, 3) := wt_op167 wb16m6_prog_13_method_69_code_c1 17 rfl rfl rfl
theorem wp_md_fitting_d48 : decode prog_13_method_69_code 48 = .ok (.iconst 0, 1) := wt_op3 wb16m6_prog_13_method_69_code_c1 20 rfl rfl
theorem wp_md_fitting_d49 : decode prog_13_method_69_code 49 = .ok (.iconst 2, 1) := wt_op5 wb16m6_prog_13_method_69_code_c1 21 rfl rfl
theorem wp_md_fitting_d50 : decode prog_13_method_69_code 50 = .ok (.invokevirtual 230, 3) := wt_op182 wb16m6_prog_13_method_69_code_c1 22 rfl rfl rfl
theorem wp_md_fitting_d53 : decode prog_13_method_69_code 53 = .ok (.ifCond .eq 5, 3) := wt_op153 wb16m6_prog_13_method_69_code_c1 25 rfl rfl rfl
theorem wp_md_fitting_d56 : decode prog_13_method_69_code 56 = .ok (.iconst 0, 1) := wt_op3 wb16m6_prog_13_method_69_code_c2 0 rfl rfl
theorem wp_md_fitting_d57 : decode prog_13_method_69_code 57 = .ok (.ireturn, 1) := wt_op172 wb16m6_prog_13_method_69_code_c2 1 rfl rfl
theorem wp_md_fitting_d58 : decode prog_13_method_69_code 58 = .ok (.iconst 1, 1) := wt_op4 wb16m6_prog_13_method_69_code_c2 2 rfl rfl
theorem wp_md_fitting_d59 : decode prog_13_method_69_code 59 = .ok (.istore 5, 2) := wt_op54 wb16m6_prog_13_method_69_code_c2 3 rfl rfl
theorem wp_md_fitting_d61 : decode prog_13_method_69_code 61 = .ok (.iconst 0, 1) := wt_op3 wb16m6_prog_13_method_69_code_c2 5 rfl rfl
theorem wp_md_fitting_d62 : decode prog_13_method_69_code 62 = .ok (.istore 6, 2) := wt_op54 wb16m6_prog_13_method_69_code_c2 6 rfl rfl
theorem wp_md_fitting_d64 : decode prog_13_method_69_code 64 = .ok (.iload 6, 2) := wt_op21 wb16m6_prog_13_method_69_code_c2 8 rfl rfl
theorem wp_md_fitting_d66 : decode prog_13_method_69_code 66 = .ok (.aload_n 0, 1) := wt_op42 wb16m6_prog_13_method_69_code_c2 10 rfl rfl
theorem wp_md_fitting_d67 : decode prog_13_method_69_code 67 = .ok (.getfield 88, 3) := wt_op180 wb16m6_prog_13_method_69_code_c2 11 rfl rfl rfl
theorem wp_md_fitting_d70 : decode prog_13_method_69_code 70 = .ok (.iload_n 1, 1) := wt_op27 wb16m6_prog_13_method_69_code_c2 14 rfl rfl
theorem wp_md_fitting_d71 : decode prog_13_method_69_code 71 = .ok (.iaload, 1) := wt_op46 wb16m6_prog_13_method_69_code_c2 15 rfl rfl
theorem wp_md_fitting_d72 : decode prog_13_method_69_code 72 = .ok (.if_icmp .ge 76, 3) := wt_op162 wb16m6_prog_13_method_69_code_c2 16 rfl rfl rfl
theorem wp_md_fitting_d75 : decode prog_13_method_69_code 75 = .ok (.iconst 0, 1) := wt_op3 wb16m6_prog_13_method_69_code_c2 19 rfl rfl
theorem wp_md_fitting_d76 : decode prog_13_method_69_code 76 = .ok (.istore 7, 2) := wt_op54 wb16m6_prog_13_method_69_code_c2 20 rfl rfl
theorem wp_md_fitting_d78 : decode prog_13_method_69_code 78 = .ok (.iconst 0, 1) := wt_op3 wb16m6_prog_13_method_69_code_c2 22 rfl rfl
theorem wp_md_fitting_d79 : decode prog_13_method_69_code 79 = .ok (.istore 8, 2) := wt_op54 wb16m6_prog_13_method_69_code_c2 23 rfl rfl
theorem wp_md_fitting_d81 : decode prog_13_method_69_code 81 = .ok (.iload 8, 2) := wt_op21 wb16m6_prog_13_method_69_code_c2 25 rfl rfl
theorem wp_md_fitting_d83 : decode prog_13_method_69_code 83 = .ok (.aload_n 0, 1) := wt_op42 wb16m6_prog_13_method_69_code_c2 27 rfl rfl
theorem wp_md_fitting_d84 : decode prog_13_method_69_code 84 = .ok (.getfield 259, 3) := wt_op180 wb16m6_prog_13_method_69_code_c3 0 rfl rfl rfl
theorem wp_md_fitting_d87 : decode prog_13_method_69_code 87 = .ok (.if_icmp .ge 31, 3) := wt_op162 wb16m6_prog_13_method_69_code_c3 3 rfl rfl rfl
theorem wp_md_fitting_d90 : decode prog_13_method_69_code 90 = .ok (.iload 7, 2) := wt_op21 wb16m6_prog_13_method_69_code_c3 6 rfl rfl
theorem wp_md_fitting_d92 : decode prog_13_method_69_code 92 = .ok (.aload_n 0, 1) := wt_op42 wb16m6_prog_13_method_69_code_c3 8 rfl rfl
theorem wp_md_fitting_d93 : decode prog_13_method_69_code 93 = .ok (.iload 8, 2) := wt_op21 wb16m6_prog_13_method_69_code_c3 9 rfl rfl
theorem wp_md_fitting_d95 : decode prog_13_method_69_code 95 = .ok (.iload_n 1, 1) := wt_op27 wb16m6_prog_13_method_69_code_c3 11 rfl rfl
theorem wp_md_fitting_d96 : decode prog_13_method_69_code 96 = .ok (.iload 6, 2) := wt_op21 wb16m6_prog_13_method_69_code_c3 12 rfl rfl
theorem wp_md_fitting_d98 : decode prog_13_method_69_code 98 = .ok (.invokevirtual 339, 3) := wt_op182 wb16m6_prog_13_method_69_code_c3 14 rfl rfl rfl
theorem wp_md_fitting_d101 : decode prog_13_method_69_code 101 = .ok (.ifCond .eq 7, 3) := wt_op153 wb16m6_prog_13_method_69_code_c3 17 rfl rfl rfl
theorem wp_md_fitting_d104 : decode prog_13_method_69_code 104 = .ok (.iconst 1, 1) := wt_op4 wb16m6_prog_13_method_69_code_c3 20 rfl rfl
theorem wp_md_fitting_d105 : decode prog_13_method_69_code 105 = .ok (.goto 4, 3) := wt_op167 wb16m6_prog_13_method_69_code_c3 21 rfl rfl rfl
theorem wp_md_fitting_d108 : decode prog_13_method_69_code 108 = .ok (.iconst 0, 1) := wt_op3 wb16m6_prog_13_method_69_code_c3 24 rfl rfl
theorem wp_md_fitting_d109 : decode prog_13_method_69_code 109 = .ok (.iadd, 1) := wt_op96 wb16m6_prog_13_method_69_code_c3 25 rfl rfl
theorem wp_md_fitting_d110 : decode prog_13_method_69_code 110 = .ok (.istore 7, 2) := wt_op54 wb16m6_prog_13_method_69_code_c3 26 rfl rfl
theorem wp_md_fitting_d112 : decode prog_13_method_69_code 112 = .ok (.iinc 8 1, 3) := wt_op132 wb16m6_prog_13_method_69_code_c4 0 rfl rfl rfl
theorem wp_md_fitting_d115 : decode prog_13_method_69_code 115 = .ok (.goto (-34), 3) := wt_op167 wb16m6_prog_13_method_69_code_c4 3 rfl rfl rfl
theorem wp_md_fitting_d118 : decode prog_13_method_69_code 118 = .ok (.iload 5, 2) := wt_op21 wb16m6_prog_13_method_69_code_c4 6 rfl rfl
theorem wp_md_fitting_d120 : decode prog_13_method_69_code 120 = .ok (.iload 7, 2) := wt_op21 wb16m6_prog_13_method_69_code_c4 8 rfl rfl
theorem wp_md_fitting_d122 : decode prog_13_method_69_code 122 = .ok (.imul, 1) := wt_op104 wb16m6_prog_13_method_69_code_c4 10 rfl rfl
theorem wp_md_fitting_d123 : decode prog_13_method_69_code 123 = .ok (.sipush 4096, 3) := wt_op17 wb16m6_prog_13_method_69_code_c4 11 rfl rfl rfl
theorem wp_md_fitting_d126 : decode prog_13_method_69_code 126 = .ok (.if_icmp .le 9, 3) := wt_op164 wb16m6_prog_13_method_69_code_c4 14 rfl rfl rfl
theorem wp_md_fitting_d129 : decode prog_13_method_69_code 129 = .ok (.sipush 5000, 3) := wt_op17 wb16m6_prog_13_method_69_code_c4 17 rfl rfl rfl
theorem wp_md_fitting_d132 : decode prog_13_method_69_code 132 = .ok (.goto 8, 3) := wt_op167 wb16m6_prog_13_method_69_code_c4 20 rfl rfl rfl
theorem wp_md_fitting_d135 : decode prog_13_method_69_code 135 = .ok (.iload 5, 2) := wt_op21 wb16m6_prog_13_method_69_code_c4 23 rfl rfl
theorem wp_md_fitting_d137 : decode prog_13_method_69_code 137 = .ok (.iload 7, 2) := wt_op21 wb16m6_prog_13_method_69_code_c4 25 rfl rfl
theorem wp_md_fitting_d139 : decode prog_13_method_69_code 139 = .ok (.imul, 1) := wt_op104 wb16m6_prog_13_method_69_code_c4 27 rfl rfl
theorem wp_md_fitting_d140 : decode prog_13_method_69_code 140 = .ok (.istore 5, 2) := wt_op54 wb16m6_prog_13_method_69_code_c5 0 rfl rfl
theorem wp_md_fitting_d142 : decode prog_13_method_69_code 142 = .ok (.iinc 6 1, 3) := wt_op132 wb16m6_prog_13_method_69_code_c5 2 rfl rfl rfl
theorem wp_md_fitting_d145 : decode prog_13_method_69_code 145 = .ok (.goto (-81), 3) := wt_op167 wb16m6_prog_13_method_69_code_c5 5 rfl rfl rfl
theorem wp_md_fitting_d148 : decode prog_13_method_69_code 148 = .ok (.iload 5, 2) := wt_op21 wb16m6_prog_13_method_69_code_c5 8 rfl rfl
theorem wp_md_fitting_d150 : decode prog_13_method_69_code 150 = .ok (.sipush 4096, 3) := wt_op17 wb16m6_prog_13_method_69_code_c5 10 rfl rfl rfl
theorem wp_md_fitting_d153 : decode prog_13_method_69_code 153 = .ok (.if_icmp .le 6, 3) := wt_op164 wb16m6_prog_13_method_69_code_c5 13 rfl rfl rfl
theorem wp_md_fitting_d156 : decode prog_13_method_69_code 156 = .ok (.bipush (-2), 2) := wt_op16 wb16m6_prog_13_method_69_code_c5 16 rfl rfl rfl
theorem wp_md_fitting_d158 : decode prog_13_method_69_code 158 = .ok (.ireturn, 1) := wt_op172 wb16m6_prog_13_method_69_code_c5 18 rfl rfl
theorem wp_md_fitting_d159 : decode prog_13_method_69_code 159 = .ok (.aload_n 0, 1) := wt_op42 wb16m6_prog_13_method_69_code_c5 19 rfl rfl
theorem wp_md_fitting_d160 : decode prog_13_method_69_code 160 = .ok (.iconst (-1), 1) := wt_op2 wb16m6_prog_13_method_69_code_c5 20 rfl rfl
theorem wp_md_fitting_d161 : decode prog_13_method_69_code 161 = .ok (.putfield 349, 3) := wt_op181 wb16m6_prog_13_method_69_code_c5 21 rfl rfl rfl
theorem wp_md_fitting_d164 : decode prog_13_method_69_code 164 = .ok (.aload_n 0, 1) := wt_op42 wb16m6_prog_13_method_69_code_c5 24 rfl rfl
theorem wp_md_fitting_d165 : decode prog_13_method_69_code 165 = .ok (.iload_n 1, 1) := wt_op27 wb16m6_prog_13_method_69_code_c5 25 rfl rfl
theorem wp_md_fitting_d166 : decode prog_13_method_69_code 166 = .ok (.iconst 0, 1) := wt_op3 wb16m6_prog_13_method_69_code_c5 26 rfl rfl
theorem wp_md_fitting_d167 : decode prog_13_method_69_code 167 = .ok (.iload_n 2, 1) := wt_op28 wb16m6_prog_13_method_69_code_c5 27 rfl rfl
theorem wp_md_fitting_d168 : decode prog_13_method_69_code 168 = .ok (.iconst 0, 1) := wt_op3 wb16m6_prog_13_method_69_code_c6 0 rfl rfl
theorem wp_md_fitting_d169 : decode prog_13_method_69_code 169 = .ok (.invokevirtual 352, 3) := wt_op182 wb16m6_prog_13_method_69_code_c6 1 rfl rfl rfl
theorem wp_md_fitting_d172 : decode prog_13_method_69_code 172 = .ok (.iload 4, 2) := wt_op21 wb16m6_prog_13_method_69_code_c6 4 rfl rfl
theorem wp_md_fitting_d174 : decode prog_13_method_69_code 174 = .ok (.ifCond .eq 11, 3) := wt_op153 wb16m6_prog_13_method_69_code_c6 6 rfl rfl rfl
theorem wp_md_fitting_d177 : decode prog_13_method_69_code 177 = .ok (.aload_n 0, 1) := wt_op42 wb16m6_prog_13_method_69_code_c6 9 rfl rfl
theorem wp_md_fitting_d178 : decode prog_13_method_69_code 178 = .ok (.getfield 349, 3) := wt_op180 wb16m6_prog_13_method_69_code_c6 10 rfl rfl rfl
theorem wp_md_fitting_d181 : decode prog_13_method_69_code 181 = .ok (.iconst (-1), 1) := wt_op2 wb16m6_prog_13_method_69_code_c6 13 rfl rfl
theorem wp_md_fitting_d182 : decode prog_13_method_69_code 182 = .ok (.if_icmp .ne 10, 3) := wt_op160 wb16m6_prog_13_method_69_code_c6 14 rfl rfl rfl
theorem wp_md_fitting_d185 : decode prog_13_method_69_code 185 = .ok (.aload_n 0, 1) := wt_op42 wb16m6_prog_13_method_69_code_c6 17 rfl rfl
theorem wp_md_fitting_d186 : decode prog_13_method_69_code 186 = .ok (.getfield 349, 3) := wt_op180 wb16m6_prog_13_method_69_code_c6 18 rfl rfl rfl
theorem wp_md_fitting_d189 : decode prog_13_method_69_code 189 = .ok (.goto 29, 3) := wt_op167 wb16m6_prog_13_method_69_code_c6 21 rfl rfl rfl
theorem wp_md_fitting_d192 : decode prog_13_method_69_code 192 = .ok (.iload_n 3, 1) := wt_op29 wb16m6_prog_13_method_69_code_c6 24 rfl rfl
theorem wp_md_fitting_d193 : decode prog_13_method_69_code 193 = .ok (.iconst 0, 1) := wt_op3 wb16m6_prog_13_method_69_code_c6 25 rfl rfl
theorem wp_md_fitting_d194 : decode prog_13_method_69_code 194 = .ok (.aload_n 0, 1) := wt_op42 wb16m6_prog_13_method_69_code_c6 26 rfl rfl
theorem wp_md_fitting_d195 : decode prog_13_method_69_code 195 = .ok (.getfield 88, 3) := wt_op180 wb16m6_prog_13_method_69_code_c6 27 rfl rfl rfl
theorem wp_md_fitting_d198 : decode prog_13_method_69_code 198 = .ok (.iload_n 1, 1) := wt_op27 wb16m6_prog_13_method_69_code_c7 0 rfl rfl
theorem wp_md_fitting_d199 : decode prog_13_method_69_code 199 = .ok (.iaload, 1) := wt_op46 wb16m6_prog_13_method_69_code_c7 1 rfl rfl
theorem wp_md_fitting_d200 : decode prog_13_method_69_code 200 = .ok (.iconst 1, 1) := wt_op4 wb16m6_prog_13_method_69_code_c7 2 rfl rfl
theorem wp_md_fitting_d201 : decode prog_13_method_69_code 201 = .ok (.isub, 1) := wt_op100 wb16m6_prog_13_method_69_code_c7 3 rfl rfl
theorem wp_md_fitting_d202 : decode prog_13_method_69_code 202 = .ok (.invokestatic 185, 3) := wt_op184 wb16m6_prog_13_method_69_code_c7 4 rfl rfl rfl
theorem wp_md_fitting_d205 : decode prog_13_method_69_code 205 = .ok (.ifCond .eq 12, 3) := wt_op153 wb16m6_prog_13_method_69_code_c7 7 rfl rfl rfl
theorem wp_md_fitting_d208 : decode prog_13_method_69_code 208 = .ok (.aload_n 0, 1) := wt_op42 wb16m6_prog_13_method_69_code_c7 10 rfl rfl
theorem wp_md_fitting_d209 : decode prog_13_method_69_code 209 = .ok (.getfield 136, 3) := wt_op180 wb16m6_prog_13_method_69_code_c7 11 rfl rfl rfl
theorem wp_md_fitting_d212 : decode prog_13_method_69_code 212 = .ok (.iload_n 3, 1) := wt_op29 wb16m6_prog_13_method_69_code_c7 14 rfl rfl
theorem wp_md_fitting_d213 : decode prog_13_method_69_code 213 = .ok (.iaload, 1) := wt_op46 wb16m6_prog_13_method_69_code_c7 15 rfl rfl
theorem wp_md_fitting_d214 : decode prog_13_method_69_code 214 = .ok (.goto 4, 3) := wt_op167 wb16m6_prog_13_method_69_code_c7 16 rfl rfl rfl
theorem wp_md_fitting_d217 : decode prog_13_method_69_code 217 = .ok (.iconst (-1), 1) := wt_op2 wb16m6_prog_13_method_69_code_c7 19 rfl rfl
theorem wp_md_fitting_d218 : decode prog_13_method_69_code 218 = .ok (.ireturn, 1) := wt_op172 wb16m6_prog_13_method_69_code_c7 20 rfl rfl
noncomputable def wp_md_fitting_B185 (n : Nat) (σ : wt_St) : Option (Int32 × wt_St) :=
  some ((wt_gf σ 108 60), σ)
set_option maxRecDepth 100000 in
set_option maxHeartbeats 4000000 in
theorem wp_md_fitting_B185_ok  {X : wt_X} {n : Nat} {res : Int32 × wt_St} (hE : wt_Ok X prog_13_method_69_code 9 "WornTypeModel" 20 0) (hR : wt_Rt X (some .int) (some res.1) res.2) (hD : ∀ i, 108 ≤ i → i < 321 → wt_dom (wt_xw X) i)  {σ : wt_St} (h : wp_md_fitting_B185 n σ = some res) : wt_V X 0 σ 185 [some (.ref (wt_ad (wt_xw X) 108)), none, none, none, none, none, none, none, none] [] := by
  unfold wp_md_fitting_B185 at h
  refine wt_aload_n hE wp_md_fitting_d185 rfl ?_
  refine wt_geti hE wt_lf_md_349 (hD 108 (by decide) (by decide)) wt_L108 rfl wp_md_fitting_d186 ?_
  refine wt_goto hE 218 wp_md_fitting_d189 rfl ?_
  cases h
  exact wt_iret hE hR wp_md_fitting_d218
noncomputable def wp_md_fitting_B140 (n : Nat) (x1 : Int32) (x2 : Int32) (x3 : Int32) (x4 : Int32) (x6 : Int32) (K64 : Int32 × Int32 × wt_St → Option (Int32 × wt_St)) (y0 : Int32) (σ : wt_St) : Option (Int32 × wt_St) :=
  K64 (y0, (x6 + (1 : Int32)), σ)
set_option maxRecDepth 100000 in
set_option maxHeartbeats 4000000 in
theorem wp_md_fitting_B140_ok  {x1 : Int32} {x2 : Int32} {x3 : Int32} {x4 : Int32} {x6 : Int32} {X : wt_X} {n : Nat} {res : Int32 × wt_St} (hE : wt_Ok X prog_13_method_69_code 9 "WornTypeModel" 20 0) (hR : wt_Rt X (some .int) (some res.1) res.2) (hD : ∀ i, 108 ≤ i → i < 321 → wt_dom (wt_xw X) i)  {K64 : Int32 × Int32 × wt_St → Option (Int32 × wt_St)} (hK64 : ∀ s : Int32 × Int32 × wt_St, K64 s = some res → wt_V X 0 s.2.2 64 [some (.ref (wt_ad (wt_xw X) 108)), some (.int x1), some (.int x2), some (.int x3), some (.int x4), some (.int s.1), some (.int s.2.1), none, none] []) {σ : wt_St} {y0 : Int32} (h : wp_md_fitting_B140 n x1 x2 x3 x4 x6 K64 y0 σ = some res) : wt_V X 0 σ 140 [some (.ref (wt_ad (wt_xw X) 108)), some (.int x1), some (.int x2), some (.int x3), some (.int x4), none, some (.int x6), none, none] [.int y0] := by
  unfold wp_md_fitting_B140 at h
  refine wt_istore hE [some (.ref (wt_ad (wt_xw X) 108)), some (.int x1), some (.int x2), some (.int x3), some (.int x4), some (.int y0), some (.int x6), none, none] wp_md_fitting_d140 (Nat.le_of_ble_eq_true rfl) rfl ?_
  refine wt_iinc hE (x6 + (1 : Int32)) [some (.ref (wt_ad (wt_xw X) 108)), some (.int x1), some (.int x2), some (.int x3), some (.int x4), some (.int y0), some (.int (x6 + (1 : Int32))), none, none] wp_md_fitting_d142 (by decide) rfl rfl rfl ?_
  refine wt_goto hE 64 wp_md_fitting_d145 rfl ?_
  exact hK64 (y0, (x6 + (1 : Int32)), σ) h
noncomputable def wp_md_fitting_B109 (n : Nat) (x1 : Int32) (x2 : Int32) (x3 : Int32) (x4 : Int32) (x5 : Int32) (x6 : Int32) (x8 : Int32) (K64 : Int32 × Int32 × wt_St → Option (Int32 × wt_St)) (K81 : Int32 × Int32 × wt_St → Option (Int32 × wt_St)) (y0 : Int32) (y1 : Int32) (σ : wt_St) : Option (Int32 × wt_St) :=
  K81 ((y0 + y1), (x8 + (1 : Int32)), σ)
set_option maxRecDepth 100000 in
set_option maxHeartbeats 4000000 in
theorem wp_md_fitting_B109_ok  {x1 : Int32} {x2 : Int32} {x3 : Int32} {x4 : Int32} {x5 : Int32} {x6 : Int32} {x8 : Int32} {X : wt_X} {n : Nat} {res : Int32 × wt_St} (hE : wt_Ok X prog_13_method_69_code 9 "WornTypeModel" 20 0) (hR : wt_Rt X (some .int) (some res.1) res.2) (hD : ∀ i, 108 ≤ i → i < 321 → wt_dom (wt_xw X) i)  {K64 : Int32 × Int32 × wt_St → Option (Int32 × wt_St)} (hK64 : ∀ s : Int32 × Int32 × wt_St, K64 s = some res → wt_V X 0 s.2.2 64 [some (.ref (wt_ad (wt_xw X) 108)), some (.int x1), some (.int x2), some (.int x3), some (.int x4), some (.int s.1), some (.int s.2.1), none, none] []) {K81 : Int32 × Int32 × wt_St → Option (Int32 × wt_St)} (hK81 : ∀ s : Int32 × Int32 × wt_St, K81 s = some res → wt_V X 0 s.2.2 81 [some (.ref (wt_ad (wt_xw X) 108)), some (.int x1), some (.int x2), some (.int x3), some (.int x4), some (.int x5), some (.int x6), some (.int s.1), some (.int s.2.1)] []) {σ : wt_St} {y0 : Int32} {y1 : Int32} (h : wp_md_fitting_B109 n x1 x2 x3 x4 x5 x6 x8 K64 K81 y0 y1 σ = some res) : wt_V X 0 σ 109 [some (.ref (wt_ad (wt_xw X) 108)), some (.int x1), some (.int x2), some (.int x3), some (.int x4), some (.int x5), some (.int x6), none, some (.int x8)] [.int y1, .int y0] := by
  unfold wp_md_fitting_B109 at h
  refine wt_iadd hE wp_md_fitting_d109 ?_
  refine wt_istore hE [some (.ref (wt_ad (wt_xw X) 108)), some (.int x1), some (.int x2), some (.int x3), some (.int x4), some (.int x5), some (.int x6), some (.int (y0 + y1)), some (.int x8)] wp_md_fitting_d110 (Nat.le_of_ble_eq_true rfl) rfl ?_
  refine wt_iinc hE (x8 + (1 : Int32)) [some (.ref (wt_ad (wt_xw X) 108)), some (.int x1), some (.int x2), some (.int x3), some (.int x4), some (.int x5), some (.int x6), some (.int (y0 + y1)), some (.int (x8 + (1 : Int32)))] wp_md_fitting_d112 (by decide) rfl rfl rfl ?_
  refine wt_goto hE 81 wp_md_fitting_d115 rfl ?_
  exact hK81 ((y0 + y1), (x8 + (1 : Int32)), σ) h
noncomputable def wp_md_fitting_B81 (n : Nat) (x1 : Int32) (x2 : Int32) (x3 : Int32) (x4 : Int32) (x5 : Int32) (x6 : Int32) (K64 : Int32 × Int32 × wt_St → Option (Int32 × wt_St)) (K81 : Int32 × Int32 × wt_St → Option (Int32 × wt_St)) (s : Int32 × Int32 × wt_St) : Option (Int32 × wt_St) :=
  if (wt_gf s.2.2 108 28) ≤ s.2.1 then
    if (x5 * s.1) ≤ (4096 : Int32) then
      wp_md_fitting_B140 n x1 x2 x3 x4 x6 K64 (x5 * s.1) s.2.2
    else
      wp_md_fitting_B140 n x1 x2 x3 x4 x6 K64 (5000 : Int32) s.2.2
  else
    (wp_md_isOf n s.2.1 x1 x6 s.2.2).bind fun q21 =>
    if q21.1 = 0 then
      wp_md_fitting_B109 n x1 x2 x3 x4 x5 x6 s.2.1 K64 K81 s.1 (0 : Int32) q21.2
    else
      wp_md_fitting_B109 n x1 x2 x3 x4 x5 x6 s.2.1 K64 K81 s.1 (1 : Int32) q21.2
set_option maxRecDepth 100000 in
set_option maxHeartbeats 4000000 in
theorem wp_md_fitting_B81_ok  {x1 : Int32} {x2 : Int32} {x3 : Int32} {x4 : Int32} {x5 : Int32} {x6 : Int32} {X : wt_X} {n : Nat} {res : Int32 × wt_St} (hE : wt_Ok X prog_13_method_69_code 9 "WornTypeModel" 20 0) (hR : wt_Rt X (some .int) (some res.1) res.2) (hD : ∀ i, 108 ≤ i → i < 321 → wt_dom (wt_xw X) i)  {K64 : Int32 × Int32 × wt_St → Option (Int32 × wt_St)} (hK64 : ∀ s : Int32 × Int32 × wt_St, K64 s = some res → wt_V X 0 s.2.2 64 [some (.ref (wt_ad (wt_xw X) 108)), some (.int x1), some (.int x2), some (.int x3), some (.int x4), some (.int s.1), some (.int s.2.1), none, none] []) {K81 : Int32 × Int32 × wt_St → Option (Int32 × wt_St)} (hK81 : ∀ s : Int32 × Int32 × wt_St, K81 s = some res → wt_V X 0 s.2.2 81 [some (.ref (wt_ad (wt_xw X) 108)), some (.int x1), some (.int x2), some (.int x3), some (.int x4), some (.int x5), some (.int x6), some (.int s.1), some (.int s.2.1)] []) {s : Int32 × Int32 × wt_St} (h : wp_md_fitting_B81 n x1 x2 x3 x4 x5 x6 K64 K81 s = some res) : wt_V X 0 s.2.2 81 [some (.ref (wt_ad (wt_xw X) 108)), some (.int x1), some (.int x2), some (.int x3), some (.int x4), some (.int x5), some (.int x6), some (.int s.1), some (.int s.2.1)] [] := by
  unfold wp_md_fitting_B81 at h
  refine wt_iload hE wp_md_fitting_d81 rfl ?_
  refine wt_aload_n hE wp_md_fitting_d83 rfl ?_
  refine wt_geti hE wt_lf_md_259 (hD 108 (by decide) (by decide)) wt_L108 rfl wp_md_fitting_d84 ?_
  refine wt_icmp_ge hE 118 wp_md_fitting_d87 rfl (fun c19 => ?_) (fun c19 => ?_)
  · have h := wt_ip c19 h
    refine wt_iload hE wp_md_fitting_d118 rfl ?_
    refine wt_iload hE wp_md_fitting_d120 rfl ?_
    refine wt_imul hE wp_md_fitting_d122 ?_
    refine wt_sipush hE (4096 : Int32) wp_md_fitting_d123 wt_cs_4096 ?_
    refine wt_icmp_le hE 135 wp_md_fitting_d126 rfl (fun c20 => ?_) (fun c20 => ?_)
    · have h := wt_ip c20 h
      refine wt_iload hE wp_md_fitting_d135 rfl ?_
      refine wt_iload hE wp_md_fitting_d137 rfl ?_
      refine wt_imul hE wp_md_fitting_d139 ?_
      refine wt_wk [true, true, true, true, true, false, true, false, false] rfl ?_
      exact wp_md_fitting_B140_ok hE hR hD hK64 h
    · have h := wt_in c20 h
      refine wt_sipush hE (5000 : Int32) wp_md_fitting_d129 wt_cs_5000 ?_
      refine wt_goto hE 140 wp_md_fitting_d132 rfl ?_
      refine wt_wk [true, true, true, true, true, false, true, false, false] rfl ?_
      exact wp_md_fitting_B140_ok hE hR hD hK64 h
  · have h := wt_in c19 h
    refine wt_iload hE wp_md_fitting_d90 rfl ?_
    refine wt_aload_n hE wp_md_fitting_d92 rfl ?_
    refine wt_iload hE wp_md_fitting_d93 rfl ?_
    refine wt_iload_n hE wp_md_fitting_d95 rfl ?_
    refine wt_iload hE wp_md_fitting_d96 rfl ?_
    obtain ⟨q21, hq21, h⟩ := wt_bi h
    refine wt_callVi hE [.int s.2.1, .int x1, .int x6] wt_lm_md_339 wt_ya_md_isOf (wp_md_isOf_ok hD hq21) (by omega) (hD 108 (by decide) (by decide)) wt_L108 rfl rfl rfl (Nat.le_of_ble_eq_true rfl) (Nat.zero_le _) wp_md_fitting_d98 (fun hbq21 => ?_)
    refine wt_if_eq hE 108 wp_md_fitting_d101 rfl (fun c22 => ?_) (fun c22 => ?_)
    · have h := wt_ip c22 h
      refine wt_iconst hE (0 : Int32) wp_md_fitting_d108 wt_ci_0 ?_
      refine wt_wk [true, true, true, true, true, true, true, false, true] rfl ?_
      exact wp_md_fitting_B109_ok hE hR hD hK64 hK81 h
    · have h := wt_in c22 h
      refine wt_iconst hE (1 : Int32) wp_md_fitting_d104 wt_ci_1 ?_
      refine wt_goto hE 109 wp_md_fitting_d105 rfl ?_
      refine wt_wk [true, true, true, true, true, true, true, false, true] rfl ?_
      exact wp_md_fitting_B109_ok hE hR hD hK64 hK81 h
noncomputable def wp_md_fitting_B64 (n : Nat) (x1 : Int32) (x2 : Int32) (x3 : Int32) (x4 : Int32) (K64 : Int32 × Int32 × wt_St → Option (Int32 × wt_St)) (s : Int32 × Int32 × wt_St) : Option (Int32 × wt_St) :=
  if x1 < 0 ∨ 8 ≤ Int32.toNatClampNeg x1 then none else
  if (wt_ga s.2.2 253 (Int32.toNatClampNeg x1)) ≤ s.2.1 then
    if s.1 ≤ (4096 : Int32) then
      (wp_md_tries n x1 (0 : Int32) x2 (0 : Int32) (wt_sf s.2.2 108 60 (-1 : Int32))).bind fun q12 =>
      if x4 = 0 then
        wp_md_fitting_B185 n q12
      else
        if (wt_gf q12 108 60) = (-1 : Int32) then
          wp_md_fitting_B185 n q12
        else
          if x1 < 0 ∨ 8 ≤ Int32.toNatClampNeg x1 then none else
          (wp_md_in n x3 (0 : Int32) ((wt_ga q12 253 (Int32.toNatClampNeg x1)) - (1 : Int32)) q12).bind fun q16 =>
          if q16.1 = 0 then
            some ((-1 : Int32), q16.2)
          else
            if x3 < 0 ∨ 12 ≤ Int32.toNatClampNeg x3 then none else
            some ((wt_ga q16.2 318 (Int32.toNatClampNeg x3)), q16.2)
    else
      some ((-2 : Int32), s.2.2)
  else
    wt_it (wp_md_fitting_B81 n x1 x2 x3 x4 s.1 s.2.1 K64) n ((0 : Int32), (0 : Int32), s.2.2)
set_option maxRecDepth 100000 in
set_option maxHeartbeats 4000000 in
theorem wp_md_fitting_B64_ok  {x1 : Int32} {x2 : Int32} {x3 : Int32} {x4 : Int32} {X : wt_X} {n : Nat} {res : Int32 × wt_St} (hE : wt_Ok X prog_13_method_69_code 9 "WornTypeModel" 20 0) (hR : wt_Rt X (some .int) (some res.1) res.2) (hD : ∀ i, 108 ≤ i → i < 321 → wt_dom (wt_xw X) i)  {K64 : Int32 × Int32 × wt_St → Option (Int32 × wt_St)} (hK64 : ∀ s : Int32 × Int32 × wt_St, K64 s = some res → wt_V X 0 s.2.2 64 [some (.ref (wt_ad (wt_xw X) 108)), some (.int x1), some (.int x2), some (.int x3), some (.int x4), some (.int s.1), some (.int s.2.1), none, none] []) {s : Int32 × Int32 × wt_St} (h : wp_md_fitting_B64 n x1 x2 x3 x4 K64 s = some res) : wt_V X 0 s.2.2 64 [some (.ref (wt_ad (wt_xw X) 108)), some (.int x1), some (.int x2), some (.int x3), some (.int x4), some (.int s.1), some (.int s.2.1), none, none] [] := by
  unfold wp_md_fitting_B64 at h
  refine wt_iload hE wp_md_fitting_d64 rfl ?_
  refine wt_aload_n hE wp_md_fitting_d66 rfl ?_
  refine wt_getr hE (r := 253) wt_lf_md_88 (hD 108 (by decide) (by decide)) wt_L108 rfl wp_md_fitting_d67 ?_
  refine wt_iload_n hE wp_md_fitting_d70 rfl ?_
  obtain ⟨g9, h⟩ := wt_gd h
  refine wt_iald hE (hD 253 (by decide) (by decide)) wt_L253 g9 wp_md_fitting_d71 ?_
  refine wt_icmp_ge hE 148 wp_md_fitting_d72 rfl (fun c10 => ?_) (fun c10 => ?_)
  · have h := wt_ip c10 h
    refine wt_iload hE wp_md_fitting_d148 rfl ?_
    refine wt_sipush hE (4096 : Int32) wp_md_fitting_d150 wt_cs_4096 ?_
    refine wt_icmp_le hE 159 wp_md_fitting_d153 rfl (fun c11 => ?_) (fun c11 => ?_)
    · have h := wt_ip c11 h
      refine wt_aload_n hE wp_md_fitting_d159 rfl ?_
      refine wt_iconst hE (-1 : Int32) wp_md_fitting_d160 wt_ci_m1 ?_
      refine wt_puti hE wt_lf_md_349 (hD 108 (by decide) (by decide)) wt_L108 rfl (fun q hq => by cases hq; rfl) wp_md_fitting_d161 ?_
      refine wt_aload_n hE wp_md_fitting_d164 rfl ?_
      refine wt_iload_n hE wp_md_fitting_d165 rfl ?_
      refine wt_iconst hE (0 : Int32) wp_md_fitting_d166 wt_ci_0 ?_
      refine wt_iload_n hE wp_md_fitting_d167 rfl ?_
      refine wt_iconst hE (0 : Int32) wp_md_fitting_d168 wt_ci_0 ?_
      obtain ⟨q12, hq12, h⟩ := wt_bi h
      refine wt_callVv hE [.int x1, .int (0 : Int32), .int x2, .int (0 : Int32)] wt_lm_md_352 wt_ya_md_tries (wp_md_tries_ok hD hq12) (by omega) (hD 108 (by decide) (by decide)) wt_L108 rfl rfl rfl (Nat.le_of_ble_eq_true rfl) (Nat.zero_le _) wp_md_fitting_d169 ?_
      refine wt_iload hE wp_md_fitting_d172 rfl ?_
      refine wt_if_eq hE 185 wp_md_fitting_d174 rfl (fun c13 => ?_) (fun c13 => ?_)
      · have h := wt_ip c13 h
        refine wt_wk [true, false, false, false, false, false, false, true, true] rfl ?_
        exact wp_md_fitting_B185_ok hE hR hD h
      · have h := wt_in c13 h
        refine wt_aload_n hE wp_md_fitting_d177 rfl ?_
        refine wt_geti hE wt_lf_md_349 (hD 108 (by decide) (by decide)) wt_L108 rfl wp_md_fitting_d178 ?_
        refine wt_iconst hE (-1 : Int32) wp_md_fitting_d181 wt_ci_m1 ?_
        refine wt_icmp_ne hE 192 wp_md_fitting_d182 rfl (fun c14 => ?_) (fun c14 => ?_)
        · have h := wt_in c14 h
          refine wt_iload_n hE wp_md_fitting_d192 rfl ?_
          refine wt_iconst hE (0 : Int32) wp_md_fitting_d193 wt_ci_0 ?_
          refine wt_aload_n hE wp_md_fitting_d194 rfl ?_
          refine wt_getr hE (r := 253) wt_lf_md_88 (hD 108 (by decide) (by decide)) wt_L108 rfl wp_md_fitting_d195 ?_
          refine wt_iload_n hE wp_md_fitting_d198 rfl ?_
          obtain ⟨g15, h⟩ := wt_gd h
          refine wt_iald hE (hD 253 (by decide) (by decide)) wt_L253 g15 wp_md_fitting_d199 ?_
          refine wt_iconst hE (1 : Int32) wp_md_fitting_d200 wt_ci_1 ?_
          refine wt_isub hE wp_md_fitting_d201 ?_
          obtain ⟨q16, hq16, h⟩ := wt_bi h
          refine wt_callSi hE [.int x3, .int (0 : Int32), .int ((wt_ga q12 253 (Int32.toNatClampNeg x1)) - (1 : Int32))] wt_lm_md_185 wt_ya_md_in (wp_md_in_ok hq16) (by omega) rfl rfl (Nat.le_of_ble_eq_true rfl) (Nat.zero_le _) wp_md_fitting_d202 (fun hbq16 => ?_)
          refine wt_if_eq hE 217 wp_md_fitting_d205 rfl (fun c17 => ?_) (fun c17 => ?_)
          · have h := wt_ip c17 h
            refine wt_iconst hE (-1 : Int32) wp_md_fitting_d217 wt_ci_m1 ?_
            cases h
            exact wt_iret hE hR wp_md_fitting_d218
          · have h := wt_in c17 h
            refine wt_aload_n hE wp_md_fitting_d208 rfl ?_
            refine wt_getr hE (r := 318) wt_lf_md_136 (hD 108 (by decide) (by decide)) wt_L108 rfl wp_md_fitting_d209 ?_
            refine wt_iload_n hE wp_md_fitting_d212 rfl ?_
            obtain ⟨g18, h⟩ := wt_gd h
            refine wt_iald hE (hD 318 (by decide) (by decide)) wt_L318 g18 wp_md_fitting_d213 ?_
            refine wt_goto hE 218 wp_md_fitting_d214 rfl ?_
            cases h
            exact wt_iret hE hR wp_md_fitting_d218
        · have h := wt_ip c14 h
          refine wt_wk [true, false, false, false, false, false, false, true, true] rfl ?_
          exact wp_md_fitting_B185_ok hE hR hD h
    · have h := wt_in c11 h
      refine wt_bipush hE (-2 : Int32) wp_md_fitting_d156 wt_cb_m2 ?_
      cases h
      exact wt_iret hE hR wp_md_fitting_d158
  · have h := wt_in c10 h
    refine wt_iconst hE (0 : Int32) wp_md_fitting_d75 wt_ci_0 ?_
    refine wt_istore hE [some (.ref (wt_ad (wt_xw X) 108)), some (.int x1), some (.int x2), some (.int x3), some (.int x4), some (.int s.1), some (.int s.2.1), some (.int (0 : Int32)), none] wp_md_fitting_d76 (Nat.le_of_ble_eq_true rfl) rfl ?_
    refine wt_iconst hE (0 : Int32) wp_md_fitting_d78 wt_ci_0 ?_
    refine wt_istore hE [some (.ref (wt_ad (wt_xw X) 108)), some (.int x1), some (.int x2), some (.int x3), some (.int x4), some (.int s.1), some (.int s.2.1), some (.int (0 : Int32)), some (.int (0 : Int32))] wp_md_fitting_d79 (Nat.le_of_ble_eq_true rfl) rfl ?_
    exact wt_it_ind (fun z => wt_V X 0 z.2.2 81 [some (.ref (wt_ad (wt_xw X) 108)), some (.int x1), some (.int x2), some (.int x3), some (.int x4), some (.int s.1), some (.int s.2.1), some (.int z.1), some (.int z.2.1)] []) (fun K hK z h => wp_md_fitting_B81_ok hE hR hD hK64 hK h) n ((0 : Int32), (0 : Int32), s.2.2) h
noncomputable def wp_md_fitting_B49 (n : Nat) (x1 : Int32) (x2 : Int32) (x3 : Int32) (x4 : Int32) (y1 : Int32) (σ : wt_St) : Option (Int32 × wt_St) :=
  (wp_md_bad n y1 (2 : Int32) σ).bind fun q7 =>
  if q7.1 = 0 then
    wt_it (wp_md_fitting_B64 n x1 x2 x3 x4) n ((1 : Int32), (0 : Int32), q7.2)
  else
    some ((0 : Int32), q7.2)
set_option maxRecDepth 100000 in
set_option maxHeartbeats 4000000 in
theorem wp_md_fitting_B49_ok  {x1 : Int32} {x2 : Int32} {x3 : Int32} {x4 : Int32} {X : wt_X} {n : Nat} {res : Int32 × wt_St} (hE : wt_Ok X prog_13_method_69_code 9 "WornTypeModel" 20 0) (hR : wt_Rt X (some .int) (some res.1) res.2) (hD : ∀ i, 108 ≤ i → i < 321 → wt_dom (wt_xw X) i)  {σ : wt_St} {y1 : Int32} (h : wp_md_fitting_B49 n x1 x2 x3 x4 y1 σ = some res) : wt_V X 0 σ 49 [some (.ref (wt_ad (wt_xw X) 108)), some (.int x1), some (.int x2), some (.int x3), some (.int x4), none, none, none, none] [.int y1, .ref (wt_ad (wt_xw X) 108)] := by
  unfold wp_md_fitting_B49 at h
  refine wt_iconst hE (2 : Int32) wp_md_fitting_d49 wt_ci_2 ?_
  obtain ⟨q7, hq7, h⟩ := wt_bi h
  refine wt_callVi hE [.int y1, .int (2 : Int32)] wt_lm_md_230 wt_ya_md_bad (wp_md_bad_ok hD hq7) (by omega) (hD 108 (by decide) (by decide)) wt_L108 rfl rfl rfl (Nat.le_of_ble_eq_true rfl) (Nat.zero_le _) wp_md_fitting_d50 (fun hbq7 => ?_)
  refine wt_if_eq hE 58 wp_md_fitting_d53 rfl (fun c8 => ?_) (fun c8 => ?_)
  · have h := wt_ip c8 h
    refine wt_iconst hE (1 : Int32) wp_md_fitting_d58 wt_ci_1 ?_
    refine wt_istore hE [some (.ref (wt_ad (wt_xw X) 108)), some (.int x1), some (.int x2), some (.int x3), some (.int x4), some (.int (1 : Int32)), none, none, none] wp_md_fitting_d59 (Nat.le_of_ble_eq_true rfl) rfl ?_
    refine wt_iconst hE (0 : Int32) wp_md_fitting_d61 wt_ci_0 ?_
    refine wt_istore hE [some (.ref (wt_ad (wt_xw X) 108)), some (.int x1), some (.int x2), some (.int x3), some (.int x4), some (.int (1 : Int32)), some (.int (0 : Int32)), none, none] wp_md_fitting_d62 (Nat.le_of_ble_eq_true rfl) rfl ?_
    exact wt_it_ind (fun z => wt_V X 0 z.2.2 64 [some (.ref (wt_ad (wt_xw X) 108)), some (.int x1), some (.int x2), some (.int x3), some (.int x4), some (.int z.1), some (.int z.2.1), none, none] []) (fun K hK z h => wp_md_fitting_B64_ok hE hR hD hK h) n ((1 : Int32), (0 : Int32), q7.2) h
  · have h := wt_in c8 h
    refine wt_iconst hE (0 : Int32) wp_md_fitting_d56 wt_ci_0 ?_
    cases h
    exact wt_iret hE hR wp_md_fitting_d57
noncomputable def wp_md_fitting_B44 (n : Nat) (x1 : Int32) (x2 : Int32) (x3 : Int32) (x4 : Int32) (σ : wt_St) : Option (Int32 × wt_St) :=
  wp_md_fitting_B49 n x1 x2 x3 x4 (1 : Int32) σ
set_option maxRecDepth 100000 in
set_option maxHeartbeats 4000000 in
theorem wp_md_fitting_B44_ok  {x1 : Int32} {x2 : Int32} {x3 : Int32} {x4 : Int32} {X : wt_X} {n : Nat} {res : Int32 × wt_St} (hE : wt_Ok X prog_13_method_69_code 9 "WornTypeModel" 20 0) (hR : wt_Rt X (some .int) (some res.1) res.2) (hD : ∀ i, 108 ≤ i → i < 321 → wt_dom (wt_xw X) i)  {σ : wt_St} (h : wp_md_fitting_B44 n x1 x2 x3 x4 σ = some res) : wt_V X 0 σ 44 [some (.ref (wt_ad (wt_xw X) 108)), some (.int x1), some (.int x2), some (.int x3), some (.int x4), none, none, none, none] [.ref (wt_ad (wt_xw X) 108)] := by
  unfold wp_md_fitting_B44 at h
  refine wt_iconst hE (1 : Int32) wp_md_fitting_d44 wt_ci_1 ?_
  refine wt_goto hE 49 wp_md_fitting_d45 rfl ?_
  exact wp_md_fitting_B49_ok hE hR hD h
noncomputable def wp_md_fitting_B19 (n : Nat) (x1 : Int32) (x2 : Int32) (x3 : Int32) (x4 : Int32) (y1 : Int32) (σ : wt_St) : Option (Int32 × wt_St) :=
  (wp_md_bad n y1 (1 : Int32) σ).bind fun q3 =>
  if q3.1 = 0 then
    (wp_md_isCopies n x2 q3.2).bind fun q5 =>
    if q5.1 = 0 then
      wp_md_fitting_B44 n x1 x2 x3 x4 q5.2
    else
      (wp_md_in n x4 (0 : Int32) (1 : Int32) q5.2).bind fun q23 =>
      if q23.1 = 0 then
        wp_md_fitting_B44 n x1 x2 x3 x4 q23.2
      else
        wp_md_fitting_B49 n x1 x2 x3 x4 (0 : Int32) q23.2
  else
    some ((0 : Int32), q3.2)
set_option maxRecDepth 100000 in
set_option maxHeartbeats 4000000 in
theorem wp_md_fitting_B19_ok  {x1 : Int32} {x2 : Int32} {x3 : Int32} {x4 : Int32} {X : wt_X} {n : Nat} {res : Int32 × wt_St} (hE : wt_Ok X prog_13_method_69_code 9 "WornTypeModel" 20 0) (hR : wt_Rt X (some .int) (some res.1) res.2) (hD : ∀ i, 108 ≤ i → i < 321 → wt_dom (wt_xw X) i)  {σ : wt_St} {y1 : Int32} (h : wp_md_fitting_B19 n x1 x2 x3 x4 y1 σ = some res) : wt_V X 0 σ 19 [some (.ref (wt_ad (wt_xw X) 108)), some (.int x1), some (.int x2), some (.int x3), some (.int x4), none, none, none, none] [.int y1, .ref (wt_ad (wt_xw X) 108)] := by
  unfold wp_md_fitting_B19 at h
  refine wt_iconst hE (1 : Int32) wp_md_fitting_d19 wt_ci_1 ?_
  obtain ⟨q3, hq3, h⟩ := wt_bi h
  refine wt_callVi hE [.int y1, .int (1 : Int32)] wt_lm_md_230 wt_ya_md_bad (wp_md_bad_ok hD hq3) (by omega) (hD 108 (by decide) (by decide)) wt_L108 rfl rfl rfl (Nat.le_of_ble_eq_true rfl) (Nat.zero_le _) wp_md_fitting_d20 (fun hbq3 => ?_)
  refine wt_if_ne hE 56 wp_md_fitting_d23 rfl (fun c4 => ?_) (fun c4 => ?_)
  · have h := wt_in c4 h
    refine wt_iconst hE (0 : Int32) wp_md_fitting_d56 wt_ci_0 ?_
    cases h
    exact wt_iret hE hR wp_md_fitting_d57
  · have h := wt_ip c4 h
    refine wt_aload_n hE wp_md_fitting_d26 rfl ?_
    refine wt_iload_n hE wp_md_fitting_d27 rfl ?_
    obtain ⟨q5, hq5, h⟩ := wt_bi h
    refine wt_callSi hE [.int x2] wt_lm_md_313 wt_ya_md_isCopies (wp_md_isCopies_ok hq5) (by omega) rfl rfl (Nat.le_of_ble_eq_true rfl) (Nat.zero_le _) wp_md_fitting_d28 (fun hbq5 => ?_)
    refine wt_if_eq hE 44 wp_md_fitting_d31 rfl (fun c6 => ?_) (fun c6 => ?_)
    · have h := wt_ip c6 h
      exact wp_md_fitting_B44_ok hE hR hD h
    · have h := wt_in c6 h
      refine wt_iload hE wp_md_fitting_d34 rfl ?_
      refine wt_iconst hE (0 : Int32) wp_md_fitting_d36 wt_ci_0 ?_
      refine wt_iconst hE (1 : Int32) wp_md_fitting_d37 wt_ci_1 ?_
      obtain ⟨q23, hq23, h⟩ := wt_bi h
      refine wt_callSi hE [.int x4, .int (0 : Int32), .int (1 : Int32)] wt_lm_md_185 wt_ya_md_in (wp_md_in_ok hq23) (by omega) rfl rfl (Nat.le_of_ble_eq_true rfl) (Nat.zero_le _) wp_md_fitting_d38 (fun hbq23 => ?_)
      refine wt_if_ne hE 48 wp_md_fitting_d41 rfl (fun c24 => ?_) (fun c24 => ?_)
      · have h := wt_in c24 h
        refine wt_iconst hE (0 : Int32) wp_md_fitting_d48 wt_ci_0 ?_
        exact wp_md_fitting_B49_ok hE hR hD h
      · have h := wt_ip c24 h
        exact wp_md_fitting_B44_ok hE hR hD h
noncomputable def wp_md_fitting (n : Nat) (x1 : Int32) (x2 : Int32) (x3 : Int32) (x4 : Int32) (σ : wt_St) : Option (Int32 × wt_St) :=
  (wp_md_isText n x1 (wt_sf σ 108 0 (0 : Int32))).bind fun q1 =>
  if q1.1 = 0 then
    wp_md_fitting_B19 n x1 x2 x3 x4 (1 : Int32) q1.2
  else
    wp_md_fitting_B19 n x1 x2 x3 x4 (0 : Int32) q1.2
set_option maxRecDepth 100000 in
set_option maxHeartbeats 4000000 in
theorem wp_md_fitting_ok {l : Launch} {w : wt_E} {n : Nat} {x1 : Int32} {x2 : Int32} {x3 : Int32} {x4 : Int32} (hD : ∀ i, 108 ≤ i → i < 321 → wt_dom w i) {σ : wt_St} {q : Int32 × wt_St} (h : wp_md_fitting n x1 x2 x3 x4 σ = some q) : wt_Ctr l w wt_y_md_fitting prog_13_method_69_code 9 (some .int) 20 [.ref (wt_ad w 108), .int x1, .int x2, .int x3, .int x4] σ (some q.1) q.2 := by
  refine wt_ctr wt_pl_md_fitting rfl (Nat.le_of_ble_eq_true rfl) [some (.ref (wt_ad w 108)), some (.int x1), some (.int x2), some (.int x3), some (.int x4), none, none, none, none] rfl ?_
  intro X hXl hXw hE hR
  subst hXl
  subst hXw
  have hE : wt_Ok X prog_13_method_69_code 9 "WornTypeModel" 20 0 := hE
  unfold wp_md_fitting at h
  refine wt_aload_n hE wp_md_fitting_d0 rfl ?_
  refine wt_iconst hE (0 : Int32) wp_md_fitting_d1 wt_ci_0 ?_
  refine wt_puti hE wt_lf_md_151 (hD 108 (by decide) (by decide)) wt_L108 rfl (fun q hq => by cases hq; rfl) wp_md_fitting_d2 ?_
  refine wt_aload_n hE wp_md_fitting_d5 rfl ?_
  refine wt_aload_n hE wp_md_fitting_d6 rfl ?_
  refine wt_iload_n hE wp_md_fitting_d7 rfl ?_
  obtain ⟨q1, hq1, h⟩ := wt_bi h
  refine wt_callVi hE [.int x1] wt_lm_md_307 wt_ya_md_isText (wp_md_isText_ok hD hq1) (by omega) (hD 108 (by decide) (by decide)) wt_L108 rfl rfl rfl (Nat.le_of_ble_eq_true rfl) (Nat.zero_le _) wp_md_fitting_d8 (fun hbq1 => ?_)
  refine wt_if_ne hE 18 wp_md_fitting_d11 rfl (fun c2 => ?_) (fun c2 => ?_)
  · have h := wt_in c2 h
    refine wt_iconst hE (0 : Int32) wp_md_fitting_d18 wt_ci_0 ?_
    exact wp_md_fitting_B19_ok hE hR hD h
  · have h := wt_ip c2 h
    refine wt_iconst hE (1 : Int32) wp_md_fitting_d14 wt_ci_1 ?_
    refine wt_goto hE 19 wp_md_fitting_d15 rfl ?_
    exact wp_md_fitting_B19_ok hE hR hD h
