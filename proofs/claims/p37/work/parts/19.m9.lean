def wb19m9_prog_13_method_25_code_r3 : List (List Nat) := [167, 255, 172, 2, 172] :: []
def wb19m9_prog_13_method_25_code_r2 : List (List Nat) := [16, 97, 100, 160, 0, 7, 4, 167, 0, 4, 3, 54, 6, 132, 7, 1, 167, 255, 211, 21, 6, 153, 0, 6, 21, 5, 172, 132, 5, 1] :: wb19m9_prog_13_method_25_code_r3
def wb19m9_prog_13_method_25_code_r1 : List (List Nat) := [21, 7, 27, 162, 0, 45, 21, 6, 153, 0, 40, 44, 21, 5, 50, 21, 7, 46, 42, 42, 180, 0, 160, 21, 7, 96, 182, 0, 163] :: wb19m9_prog_13_method_25_code_r2
def wb19m9_prog_13_method_25_code_r0 : List (List Nat) := [3, 54, 5, 21, 5, 21, 4, 162, 0, 83, 45, 21, 5, 46, 27, 160, 0, 7, 4, 167, 0, 4, 3, 54, 6, 3, 54, 7] :: wb19m9_prog_13_method_25_code_r1
set_option maxRecDepth 100000 in
theorem wb19m9_prog_13_method_25_code_c0 : wt_cs prog_13_method_25_code 0 wb19m9_prog_13_method_25_code_r0 := wt_cs_of (by decide +kernel)
theorem wb19m9_prog_13_method_25_code_c1 : wt_cs prog_13_method_25_code 28 wb19m9_prog_13_method_25_code_r1 := wt_cs_tl (m := 28) wb19m9_prog_13_method_25_code_c0 rfl rfl
theorem wb19m9_prog_13_method_25_code_c2 : wt_cs prog_13_method_25_code 57 wb19m9_prog_13_method_25_code_r2 := wt_cs_tl (m := 29) wb19m9_prog_13_method_25_code_c1 rfl rfl
theorem wb19m9_prog_13_method_25_code_c3 : wt_cs prog_13_method_25_code 87 wb19m9_prog_13_method_25_code_r3 := wt_cs_tl (m := 30) wb19m9_prog_13_method_25_code_c2 rfl rfl
theorem wp_md_wordOf_131_d0 : decode prog_13_method_25_code 0 = .ok (.iconst 0, 1) := wt_op3 wb19m9_prog_13_method_25_code_c0 0 rfl rfl
theorem wp_md_wordOf_131_d1 : decode prog_13_method_25_code 1 = .ok (.istore 5, 2) := wt_op54 wb19m9_prog_13_method_25_code_c0 1 rfl rfl
theorem wp_md_wordOf_131_d3 : decode prog_13_method_25_code 3 = .ok (.iload 5, 2) := wt_op21 wb19m9_prog_13_method_25_code_c0 3 rfl rfl
theorem wp_md_wordOf_131_d5 : decode prog_13_method_25_code 5 = .ok (.iload 4, 2) := wt_op21 wb19m9_prog_13_method_25_code_c0 5 rfl rfl
theorem wp_md_wordOf_131_d7 : decode prog_13_method_25_code 7 = .ok (.if_icmp .ge 83, 3) := wt_op162 wb19m9_prog_13_method_25_code_c0 7 rfl rfl rfl
theorem wp_md_wordOf_131_d10 : decode prog_13_method_25_code 10 = .ok (.aload_n 3, 1) := wt_op45 wb19m9_prog_13_method_25_code_c0 10 rfl rfl
theorem wp_md_wordOf_131_d11 : decode prog_13_method_25_code 11 = .ok (.iload 5, 2) := wt_op21 wb19m9_prog_13_method_25_code_c0 11 rfl rfl
theorem wp_md_wordOf_131_d13 : decode prog_13_method_25_code 13 = .ok (.iaload, 1) := wt_op46 wb19m9_prog_13_method_25_code_c0 13 rfl rfl
theorem wp_md_wordOf_131_d14 : decode prog_13_method_25_code 14 = .ok (.iload_n 1, 1) := wt_op27 wb19m9_prog_13_method_25_code_c0 14 rfl rfl
theorem wp_md_wordOf_131_d15 : decode prog_13_method_25_code 15 = .ok (.if_icmp .ne 7, 3) := wt_op160 wb19m9_prog_13_method_25_code_c0 15 rfl rfl rfl
theorem wp_md_wordOf_131_d18 : decode prog_13_method_25_code 18 = .ok (.iconst 1, 1) := wt_op4 wb19m9_prog_13_method_25_code_c0 18 rfl rfl
theorem wp_md_wordOf_131_d19 : decode prog_13_method_25_code 19 = .ok (.goto 4, 3) := wt_op167 wb19m9_prog_13_method_25_code_c0 19 rfl rfl rfl
theorem wp_md_wordOf_131_d22 : decode prog_13_method_25_code 22 = .ok (.iconst 0, 1) := wt_op3 wb19m9_prog_13_method_25_code_c0 22 rfl rfl
theorem wp_md_wordOf_131_d23 : decode prog_13_method_25_code 23 = .ok (.istore 6, 2) := wt_op54 wb19m9_prog_13_method_25_code_c0 23 rfl rfl
theorem wp_md_wordOf_131_d25 : decode prog_13_method_25_code 25 = .ok (.iconst 0, 1) := wt_op3 wb19m9_prog_13_method_25_code_c0 25 rfl rfl
theorem wp_md_wordOf_131_d26 : decode prog_13_method_25_code 26 = .ok (.istore 7, 2) := wt_op54 wb19m9_prog_13_method_25_code_c0 26 rfl rfl
theorem wp_md_wordOf_131_d28 : decode prog_13_method_25_code 28 = .ok (.iload 7, 2) := wt_op21 wb19m9_prog_13_method_25_code_c1 0 rfl rfl
theorem wp_md_wordOf_131_d30 : decode prog_13_method_25_code 30 = .ok (.iload_n 1, 1) := wt_op27 wb19m9_prog_13_method_25_code_c1 2 rfl rfl
theorem wp_md_wordOf_131_d31 : decode prog_13_method_25_code 31 = .ok (.if_icmp .ge 45, 3) := wt_op162 wb19m9_prog_13_method_25_code_c1 3 rfl rfl rfl
theorem wp_md_wordOf_131_d34 : decode prog_13_method_25_code 34 = .ok (.iload 6, 2) := wt_op21 wb19m9_prog_13_method_25_code_c1 6 rfl rfl
theorem wp_md_wordOf_131_d36 : decode prog_13_method_25_code 36 = .ok (.ifCond .eq 40, 3) := wt_op153 wb19m9_prog_13_method_25_code_c1 8 rfl rfl rfl
theorem wp_md_wordOf_131_d39 : decode prog_13_method_25_code 39 = .ok (.aload_n 2, 1) := wt_op44 wb19m9_prog_13_method_25_code_c1 11 rfl rfl
theorem wp_md_wordOf_131_d40 : decode prog_13_method_25_code 40 = .ok (.iload 5, 2) := wt_op21 wb19m9_prog_13_method_25_code_c1 12 rfl rfl
theorem wp_md_wordOf_131_d42 : decode prog_13_method_25_code 42 = .ok (.aaload, 1) := wt_op50 wb19m9_prog_13_method_25_code_c1 14 rfl rfl
theorem wp_md_wordOf_131_d43 : decode prog_13_method_25_code 43 = .ok (.iload 7, 2) := wt_op21 wb19m9_prog_13_method_25_code_c1 15 rfl rfl
theorem wp_md_wordOf_131_d45 : decode prog_13_method_25_code 45 = .ok (.iaload, 1) := wt_op46 wb19m9_prog_13_method_25_code_c1 17 rfl rfl
theorem wp_md_wordOf_131_d46 : decode prog_13_method_25_code 46 = .ok (.aload_n 0, 1) := wt_op42 wb19m9_prog_13_method_25_code_c1 18 rfl rfl
theorem wp_md_wordOf_131_d47 : decode prog_13_method_25_code 47 = .ok (.aload_n 0, 1) := wt_op42 wb19m9_prog_13_method_25_code_c1 19 rfl rfl
theorem wp_md_wordOf_131_d48 : decode prog_13_method_25_code 48 = .ok (.getfield 160, 3) := wt_op180 wb19m9_prog_13_method_25_code_c1 20 rfl rfl rfl
theorem wp_md_wordOf_131_d51 : decode prog_13_method_25_code 51 = .ok (.iload 7, 2) := wt_op21 wb19m9_prog_13_method_25_code_c1 23 rfl rfl
theorem wp_md_wordOf_131_d53 : decode prog_13_method_25_code 53 = .ok (.iadd, 1) := wt_op96 wb19m9_prog_13_method_25_code_c1 25 rfl rfl
theorem wp_md_wordOf_131_d54 : decode prog_13_method_25_code 54 = .ok (.invokevirtual 163, 3) := wt_op182 wb19m9_prog_13_method_25_code_c1 26 rfl rfl rfl
theorem wp_md_wordOf_131_d57 : decode prog_13_method_25_code 57 = .ok (.bipush 97, 2) := wt_op16 wb19m9_prog_13_method_25_code_c2 0 rfl rfl rfl
theorem wp_md_wordOf_131_d59 : decode prog_13_method_25_code 59 = .ok (.isub, 1) := wt_op100 wb19m9_prog_13_method_25_code_c2 2 rfl rfl
theorem wp_md_wordOf_131_d60 : decode prog_13_method_25_code 60 = .ok (.if_icmp .ne 7, 3) := wt_op160 wb19m9_prog_13_method_25_code_c2 3 rfl rfl rfl
theorem wp_md_wordOf_131_d63 : decode prog_13_method_25_code 63 = .ok (.iconst 1, 1) := wt_op4 wb19m9_prog_13_method_25_code_c2 6 rfl rfl
theorem wp_md_wordOf_131_d64 : decode prog_13_method_25_code 64 = .ok (.goto 4, 3) := wt_op167 wb19m9_prog_13_method_25_code_c2 7 rfl rfl rfl
theorem wp_md_wordOf_131_d67 : decode prog_13_method_25_code 67 = .ok (.iconst 0, 1) := wt_op3 wb19m9_prog_13_method_25_code_c2 10 rfl rfl
theorem wp_md_wordOf_131_d68 : decode prog_13_method_25_code 68 = .ok (.istore 6, 2) := wt_op54 wb19m9_prog_13_method_25_code_c2 11 rfl rfl
theorem wp_md_wordOf_131_d70 : decode prog_13_method_25_code 70 = .ok (.iinc 7 1, 3) := wt_op132 wb19m9_prog_13_method_25_code_c2 13 rfl rfl rfl
theorem wp_md_wordOf_131_d73 : decode prog_13_method_25_code 73 = .ok (.goto (-45), 3) := wt_op167 wb19m9_prog_13_method_25_code_c2 16 rfl rfl rfl
theorem wp_md_wordOf_131_d76 : decode prog_13_method_25_code 76 = .ok (.iload 6, 2) := wt_op21 wb19m9_prog_13_method_25_code_c2 19 rfl rfl
theorem wp_md_wordOf_131_d78 : decode prog_13_method_25_code 78 = .ok (.ifCond .eq 6, 3) := wt_op153 wb19m9_prog_13_method_25_code_c2 21 rfl rfl rfl
theorem wp_md_wordOf_131_d81 : decode prog_13_method_25_code 81 = .ok (.iload 5, 2) := wt_op21 wb19m9_prog_13_method_25_code_c2 24 rfl rfl
theorem wp_md_wordOf_131_d83 : decode prog_13_method_25_code 83 = .ok (.ireturn, 1) := wt_op172 wb19m9_prog_13_method_25_code_c2 26 rfl rfl
theorem wp_md_wordOf_131_d84 : decode prog_13_method_25_code 84 = .ok (.iinc 5 1, 3) := wt_op132 wb19m9_prog_13_method_25_code_c2 27 rfl rfl rfl
theorem wp_md_wordOf_131_d87 : decode prog_13_method_25_code 87 = .ok (.goto (-84), 3) := wt_op167 wb19m9_prog_13_method_25_code_c3 0 rfl rfl rfl
theorem wp_md_wordOf_131_d90 : decode prog_13_method_25_code 90 = .ok (.iconst (-1), 1) := wt_op2 wb19m9_prog_13_method_25_code_c3 3 rfl rfl
theorem wp_md_wordOf_131_d91 : decode prog_13_method_25_code 91 = .ok (.ireturn, 1) := wt_op172 wb19m9_prog_13_method_25_code_c3 4 rfl rfl
noncomputable def wp_md_wordOf_131_B76 (n : Nat) (a3 : Nat) (x1 : Int32) (x4 : Int32) (x5 : Int32) (x6 : Int32) (K3 : Int32 × wt_St → Option (Int32 × wt_St)) (σ : wt_St) : Option (Int32 × wt_St) :=
  if x6 = 0 then
    K3 ((x5 + (1 : Int32)), σ)
  else
    some (x5, σ)
set_option maxRecDepth 100000 in
set_option maxHeartbeats 4000000 in
theorem wp_md_wordOf_131_B76_ok  {a3 : Nat} {x1 : Int32} {x4 : Int32} {x5 : Int32} {x6 : Int32} {X : wt_X} {n : Nat} {res : Int32 × wt_St} (hE : wt_Ok X prog_13_method_25_code 8 "WornTypeModel" 1 0) (hR : wt_Rt X (some .int) (some res.1) res.2) (hD : ∀ i, 108 ≤ i → i < 321 → wt_dom (wt_xw X) i) (hA_a3 : wt_LAY[a3]? = some (0, wt_ln a3, [])) (hd_a3 : wt_dom (wt_xw X) a3) {K3 : Int32 × wt_St → Option (Int32 × wt_St)} (hK3 : ∀ s : Int32 × wt_St, K3 s = some res → wt_V X 0 s.2 3 [some (.ref (wt_ad (wt_xw X) 108)), some (.int x1), some (.ref (wt_ad (wt_xw X) 131)), some (.ref (wt_ad (wt_xw X) a3)), some (.int x4), some (.int s.1), none, none] []) {σ : wt_St} (h : wp_md_wordOf_131_B76 n a3 x1 x4 x5 x6 K3 σ = some res) : wt_V X 0 σ 76 [some (.ref (wt_ad (wt_xw X) 108)), some (.int x1), some (.ref (wt_ad (wt_xw X) 131)), some (.ref (wt_ad (wt_xw X) a3)), some (.int x4), some (.int x5), some (.int x6), none] [] := by
  unfold wp_md_wordOf_131_B76 at h
  refine wt_iload hE wp_md_wordOf_131_d76 rfl ?_
  refine wt_if_eq hE 84 wp_md_wordOf_131_d78 rfl (fun c5 => ?_) (fun c5 => ?_)
  · have h := wt_ip c5 h
    refine wt_iinc hE (x5 + (1 : Int32)) [some (.ref (wt_ad (wt_xw X) 108)), some (.int x1), some (.ref (wt_ad (wt_xw X) 131)), some (.ref (wt_ad (wt_xw X) a3)), some (.int x4), some (.int (x5 + (1 : Int32))), some (.int x6), none] wp_md_wordOf_131_d84 (by decide) rfl rfl rfl ?_
    refine wt_goto hE 3 wp_md_wordOf_131_d87 rfl ?_
    refine wt_wk [true, true, true, true, true, true, false, true] rfl ?_
    exact hK3 ((x5 + (1 : Int32)), σ) h
  · have h := wt_in c5 h
    refine wt_iload hE wp_md_wordOf_131_d81 rfl ?_
    cases h
    exact wt_iret hE hR wp_md_wordOf_131_d83
noncomputable def wp_md_wordOf_131_B68 (n : Nat) (a3 : Nat) (x1 : Int32) (x4 : Int32) (x5 : Int32) (x7 : Int32) (K3 : Int32 × wt_St → Option (Int32 × wt_St)) (K28 : Int32 × Int32 × wt_St → Option (Int32 × wt_St)) (y0 : Int32) (σ : wt_St) : Option (Int32 × wt_St) :=
  K28 (y0, (x7 + (1 : Int32)), σ)
set_option maxRecDepth 100000 in
set_option maxHeartbeats 4000000 in
theorem wp_md_wordOf_131_B68_ok  {a3 : Nat} {x1 : Int32} {x4 : Int32} {x5 : Int32} {x7 : Int32} {X : wt_X} {n : Nat} {res : Int32 × wt_St} (hE : wt_Ok X prog_13_method_25_code 8 "WornTypeModel" 1 0) (hR : wt_Rt X (some .int) (some res.1) res.2) (hD : ∀ i, 108 ≤ i → i < 321 → wt_dom (wt_xw X) i) (hA_a3 : wt_LAY[a3]? = some (0, wt_ln a3, [])) (hd_a3 : wt_dom (wt_xw X) a3) {K3 : Int32 × wt_St → Option (Int32 × wt_St)} (hK3 : ∀ s : Int32 × wt_St, K3 s = some res → wt_V X 0 s.2 3 [some (.ref (wt_ad (wt_xw X) 108)), some (.int x1), some (.ref (wt_ad (wt_xw X) 131)), some (.ref (wt_ad (wt_xw X) a3)), some (.int x4), some (.int s.1), none, none] []) {K28 : Int32 × Int32 × wt_St → Option (Int32 × wt_St)} (hK28 : ∀ s : Int32 × Int32 × wt_St, K28 s = some res → wt_V X 0 s.2.2 28 [some (.ref (wt_ad (wt_xw X) 108)), some (.int x1), some (.ref (wt_ad (wt_xw X) 131)), some (.ref (wt_ad (wt_xw X) a3)), some (.int x4), some (.int x5), some (.int s.1), some (.int s.2.1)] []) {σ : wt_St} {y0 : Int32} (h : wp_md_wordOf_131_B68 n a3 x1 x4 x5 x7 K3 K28 y0 σ = some res) : wt_V X 0 σ 68 [some (.ref (wt_ad (wt_xw X) 108)), some (.int x1), some (.ref (wt_ad (wt_xw X) 131)), some (.ref (wt_ad (wt_xw X) a3)), some (.int x4), some (.int x5), none, some (.int x7)] [.int y0] := by
  unfold wp_md_wordOf_131_B68 at h
  refine wt_istore hE [some (.ref (wt_ad (wt_xw X) 108)), some (.int x1), some (.ref (wt_ad (wt_xw X) 131)), some (.ref (wt_ad (wt_xw X) a3)), some (.int x4), some (.int x5), some (.int y0), some (.int x7)] wp_md_wordOf_131_d68 (Nat.le_of_ble_eq_true rfl) rfl ?_
  refine wt_iinc hE (x7 + (1 : Int32)) [some (.ref (wt_ad (wt_xw X) 108)), some (.int x1), some (.ref (wt_ad (wt_xw X) 131)), some (.ref (wt_ad (wt_xw X) a3)), some (.int x4), some (.int x5), some (.int y0), some (.int (x7 + (1 : Int32)))] wp_md_wordOf_131_d70 (by decide) rfl rfl rfl ?_
  refine wt_goto hE 28 wp_md_wordOf_131_d73 rfl ?_
  exact hK28 (y0, (x7 + (1 : Int32)), σ) h
noncomputable def wp_md_wordOf_131_B28 (n : Nat) (a3 : Nat) (x1 : Int32) (x4 : Int32) (x5 : Int32) (K3 : Int32 × wt_St → Option (Int32 × wt_St)) (K28 : Int32 × Int32 × wt_St → Option (Int32 × wt_St)) (s : Int32 × Int32 × wt_St) : Option (Int32 × wt_St) :=
  if x1 ≤ s.2.1 then
    wp_md_wordOf_131_B76 n a3 x1 x4 x5 s.1 K3 s.2.2
  else
    if s.1 = 0 then
      wp_md_wordOf_131_B76 n a3 x1 x4 x5 s.1 K3 s.2.2
    else
      if x5 < 0 ∨ 60 ≤ Int32.toNatClampNeg x5 then none else
      if s.2.1 < 0 ∨ 9 ≤ Int32.toNatClampNeg s.2.1 then none else
      (wp_md_byteAt n ((wt_gf s.2.2 108 4) + s.2.1) s.2.2).bind fun q9 =>
      if (wt_ga s.2.2 (132 + Int32.toNatClampNeg x5) (Int32.toNatClampNeg s.2.1)) = (q9.1 - (97 : Int32)) then
        wp_md_wordOf_131_B68 n a3 x1 x4 x5 s.2.1 K3 K28 (1 : Int32) q9.2
      else
        wp_md_wordOf_131_B68 n a3 x1 x4 x5 s.2.1 K3 K28 (0 : Int32) q9.2
set_option maxRecDepth 100000 in
set_option maxHeartbeats 4000000 in
theorem wp_md_wordOf_131_B28_ok  {a3 : Nat} {x1 : Int32} {x4 : Int32} {x5 : Int32} {X : wt_X} {n : Nat} {res : Int32 × wt_St} (hE : wt_Ok X prog_13_method_25_code 8 "WornTypeModel" 1 0) (hR : wt_Rt X (some .int) (some res.1) res.2) (hD : ∀ i, 108 ≤ i → i < 321 → wt_dom (wt_xw X) i) (hA_a3 : wt_LAY[a3]? = some (0, wt_ln a3, [])) (hd_a3 : wt_dom (wt_xw X) a3) {K3 : Int32 × wt_St → Option (Int32 × wt_St)} (hK3 : ∀ s : Int32 × wt_St, K3 s = some res → wt_V X 0 s.2 3 [some (.ref (wt_ad (wt_xw X) 108)), some (.int x1), some (.ref (wt_ad (wt_xw X) 131)), some (.ref (wt_ad (wt_xw X) a3)), some (.int x4), some (.int s.1), none, none] []) {K28 : Int32 × Int32 × wt_St → Option (Int32 × wt_St)} (hK28 : ∀ s : Int32 × Int32 × wt_St, K28 s = some res → wt_V X 0 s.2.2 28 [some (.ref (wt_ad (wt_xw X) 108)), some (.int x1), some (.ref (wt_ad (wt_xw X) 131)), some (.ref (wt_ad (wt_xw X) a3)), some (.int x4), some (.int x5), some (.int s.1), some (.int s.2.1)] []) {s : Int32 × Int32 × wt_St} (h : wp_md_wordOf_131_B28 n a3 x1 x4 x5 K3 K28 s = some res) : wt_V X 0 s.2.2 28 [some (.ref (wt_ad (wt_xw X) 108)), some (.int x1), some (.ref (wt_ad (wt_xw X) 131)), some (.ref (wt_ad (wt_xw X) a3)), some (.int x4), some (.int x5), some (.int s.1), some (.int s.2.1)] [] := by
  unfold wp_md_wordOf_131_B28 at h
  refine wt_iload hE wp_md_wordOf_131_d28 rfl ?_
  refine wt_iload_n hE wp_md_wordOf_131_d30 rfl ?_
  refine wt_icmp_ge hE 76 wp_md_wordOf_131_d31 rfl (fun c4 => ?_) (fun c4 => ?_)
  · have h := wt_ip c4 h
    refine wt_wk [true, true, true, true, true, true, true, false] rfl ?_
    exact wp_md_wordOf_131_B76_ok hE hR hD hA_a3 hd_a3 hK3 h
  · have h := wt_in c4 h
    refine wt_iload hE wp_md_wordOf_131_d34 rfl ?_
    refine wt_if_eq hE 76 wp_md_wordOf_131_d36 rfl (fun c6 => ?_) (fun c6 => ?_)
    · have h := wt_ip c6 h
      refine wt_wk [true, true, true, true, true, true, true, false] rfl ?_
      exact wp_md_wordOf_131_B76_ok hE hR hD hA_a3 hd_a3 hK3 h
    · have h := wt_in c6 h
      refine wt_aload_n hE wp_md_wordOf_131_d39 rfl ?_
      refine wt_iload hE wp_md_wordOf_131_d40 rfl ?_
      obtain ⟨g7, h⟩ := wt_gd h
      have lg7 := wt_lt g7
      refine wt_aald1 hE (hD 131 (by decide) (by decide)) wt_L131 g7 wp_md_wordOf_131_d42 ?_
      refine wt_iload hE wp_md_wordOf_131_d43 rfl ?_
      obtain ⟨g8, h⟩ := wt_gd h
      refine wt_iald hE (hD _ (by omega) (by omega)) (wt_G132 _ lg7) g8 wp_md_wordOf_131_d45 ?_
      refine wt_aload_n hE wp_md_wordOf_131_d46 rfl ?_
      refine wt_aload_n hE wp_md_wordOf_131_d47 rfl ?_
      refine wt_geti hE wt_lf_md_160 (hD 108 (by decide) (by decide)) wt_L108 rfl wp_md_wordOf_131_d48 ?_
      refine wt_iload hE wp_md_wordOf_131_d51 rfl ?_
      refine wt_iadd hE wp_md_wordOf_131_d53 ?_
      obtain ⟨q9, hq9, h⟩ := wt_bi h
      refine wt_callVi hE [.int ((wt_gf s.2.2 108 4) + s.2.1)] wt_lm_md_163 wt_ya_md_byteAt (wp_md_byteAt_ok hD hq9) (by omega) (hD 108 (by decide) (by decide)) wt_L108 rfl rfl rfl (Nat.le_of_ble_eq_true rfl) (Nat.zero_le _) wp_md_wordOf_131_d54 (fun hbq9 => ?_)
      refine wt_bipush hE (97 : Int32) wp_md_wordOf_131_d57 wt_cb_97 ?_
      refine wt_isub hE wp_md_wordOf_131_d59 ?_
      refine wt_icmp_ne hE 67 wp_md_wordOf_131_d60 rfl (fun c10 => ?_) (fun c10 => ?_)
      · have h := wt_in c10 h
        refine wt_iconst hE (0 : Int32) wp_md_wordOf_131_d67 wt_ci_0 ?_
        refine wt_wk [true, true, true, true, true, true, false, true] rfl ?_
        exact wp_md_wordOf_131_B68_ok hE hR hD hA_a3 hd_a3 hK3 hK28 h
      · have h := wt_ip c10 h
        refine wt_iconst hE (1 : Int32) wp_md_wordOf_131_d63 wt_ci_1 ?_
        refine wt_goto hE 68 wp_md_wordOf_131_d64 rfl ?_
        refine wt_wk [true, true, true, true, true, true, false, true] rfl ?_
        exact wp_md_wordOf_131_B68_ok hE hR hD hA_a3 hd_a3 hK3 hK28 h
noncomputable def wp_md_wordOf_131_B23 (n : Nat) (a3 : Nat) (x1 : Int32) (x4 : Int32) (x5 : Int32) (K3 : Int32 × wt_St → Option (Int32 × wt_St)) (y0 : Int32) (σ : wt_St) : Option (Int32 × wt_St) :=
  wt_it (wp_md_wordOf_131_B28 n a3 x1 x4 x5 K3) n (y0, (0 : Int32), σ)
set_option maxRecDepth 100000 in
set_option maxHeartbeats 4000000 in
theorem wp_md_wordOf_131_B23_ok  {a3 : Nat} {x1 : Int32} {x4 : Int32} {x5 : Int32} {X : wt_X} {n : Nat} {res : Int32 × wt_St} (hE : wt_Ok X prog_13_method_25_code 8 "WornTypeModel" 1 0) (hR : wt_Rt X (some .int) (some res.1) res.2) (hD : ∀ i, 108 ≤ i → i < 321 → wt_dom (wt_xw X) i) (hA_a3 : wt_LAY[a3]? = some (0, wt_ln a3, [])) (hd_a3 : wt_dom (wt_xw X) a3) {K3 : Int32 × wt_St → Option (Int32 × wt_St)} (hK3 : ∀ s : Int32 × wt_St, K3 s = some res → wt_V X 0 s.2 3 [some (.ref (wt_ad (wt_xw X) 108)), some (.int x1), some (.ref (wt_ad (wt_xw X) 131)), some (.ref (wt_ad (wt_xw X) a3)), some (.int x4), some (.int s.1), none, none] []) {σ : wt_St} {y0 : Int32} (h : wp_md_wordOf_131_B23 n a3 x1 x4 x5 K3 y0 σ = some res) : wt_V X 0 σ 23 [some (.ref (wt_ad (wt_xw X) 108)), some (.int x1), some (.ref (wt_ad (wt_xw X) 131)), some (.ref (wt_ad (wt_xw X) a3)), some (.int x4), some (.int x5), none, none] [.int y0] := by
  unfold wp_md_wordOf_131_B23 at h
  refine wt_istore hE [some (.ref (wt_ad (wt_xw X) 108)), some (.int x1), some (.ref (wt_ad (wt_xw X) 131)), some (.ref (wt_ad (wt_xw X) a3)), some (.int x4), some (.int x5), some (.int y0), none] wp_md_wordOf_131_d23 (Nat.le_of_ble_eq_true rfl) rfl ?_
  refine wt_iconst hE (0 : Int32) wp_md_wordOf_131_d25 wt_ci_0 ?_
  refine wt_istore hE [some (.ref (wt_ad (wt_xw X) 108)), some (.int x1), some (.ref (wt_ad (wt_xw X) 131)), some (.ref (wt_ad (wt_xw X) a3)), some (.int x4), some (.int x5), some (.int y0), some (.int (0 : Int32))] wp_md_wordOf_131_d26 (Nat.le_of_ble_eq_true rfl) rfl ?_
  exact wt_it_ind (fun z => wt_V X 0 z.2.2 28 [some (.ref (wt_ad (wt_xw X) 108)), some (.int x1), some (.ref (wt_ad (wt_xw X) 131)), some (.ref (wt_ad (wt_xw X) a3)), some (.int x4), some (.int x5), some (.int z.1), some (.int z.2.1)] []) (fun K hK z h => wp_md_wordOf_131_B28_ok hE hR hD hA_a3 hd_a3 hK3 hK h) n (y0, (0 : Int32), σ) h
noncomputable def wp_md_wordOf_131_B3 (n : Nat) (a3 : Nat) (x1 : Int32) (x4 : Int32) (K3 : Int32 × wt_St → Option (Int32 × wt_St)) (s : Int32 × wt_St) : Option (Int32 × wt_St) :=
  if x4 ≤ s.1 then
    some ((-1 : Int32), s.2)
  else
    if s.1 < 0 ∨ (wt_ln a3) ≤ Int32.toNatClampNeg s.1 then none else
    if (wt_ga s.2 a3 (Int32.toNatClampNeg s.1)) = x1 then
      wp_md_wordOf_131_B23 n a3 x1 x4 s.1 K3 (1 : Int32) s.2
    else
      wp_md_wordOf_131_B23 n a3 x1 x4 s.1 K3 (0 : Int32) s.2
set_option maxRecDepth 100000 in
set_option maxHeartbeats 4000000 in
theorem wp_md_wordOf_131_B3_ok  {a3 : Nat} {x1 : Int32} {x4 : Int32} {X : wt_X} {n : Nat} {res : Int32 × wt_St} (hE : wt_Ok X prog_13_method_25_code 8 "WornTypeModel" 1 0) (hR : wt_Rt X (some .int) (some res.1) res.2) (hD : ∀ i, 108 ≤ i → i < 321 → wt_dom (wt_xw X) i) (hA_a3 : wt_LAY[a3]? = some (0, wt_ln a3, [])) (hd_a3 : wt_dom (wt_xw X) a3) {K3 : Int32 × wt_St → Option (Int32 × wt_St)} (hK3 : ∀ s : Int32 × wt_St, K3 s = some res → wt_V X 0 s.2 3 [some (.ref (wt_ad (wt_xw X) 108)), some (.int x1), some (.ref (wt_ad (wt_xw X) 131)), some (.ref (wt_ad (wt_xw X) a3)), some (.int x4), some (.int s.1), none, none] []) {s : Int32 × wt_St} (h : wp_md_wordOf_131_B3 n a3 x1 x4 K3 s = some res) : wt_V X 0 s.2 3 [some (.ref (wt_ad (wt_xw X) 108)), some (.int x1), some (.ref (wt_ad (wt_xw X) 131)), some (.ref (wt_ad (wt_xw X) a3)), some (.int x4), some (.int s.1), none, none] [] := by
  unfold wp_md_wordOf_131_B3 at h
  refine wt_iload hE wp_md_wordOf_131_d3 rfl ?_
  refine wt_iload hE wp_md_wordOf_131_d5 rfl ?_
  refine wt_icmp_ge hE 90 wp_md_wordOf_131_d7 rfl (fun c1 => ?_) (fun c1 => ?_)
  · have h := wt_ip c1 h
    refine wt_iconst hE (-1 : Int32) wp_md_wordOf_131_d90 wt_ci_m1 ?_
    cases h
    exact wt_iret hE hR wp_md_wordOf_131_d91
  · have h := wt_in c1 h
    refine wt_aload_n hE wp_md_wordOf_131_d10 rfl ?_
    refine wt_iload hE wp_md_wordOf_131_d11 rfl ?_
    obtain ⟨g2, h⟩ := wt_gd h
    refine wt_iald hE hd_a3 hA_a3 g2 wp_md_wordOf_131_d13 ?_
    refine wt_iload_n hE wp_md_wordOf_131_d14 rfl ?_
    refine wt_icmp_ne hE 22 wp_md_wordOf_131_d15 rfl (fun c3 => ?_) (fun c3 => ?_)
    · have h := wt_in c3 h
      refine wt_iconst hE (0 : Int32) wp_md_wordOf_131_d22 wt_ci_0 ?_
      exact wp_md_wordOf_131_B23_ok hE hR hD hA_a3 hd_a3 hK3 h
    · have h := wt_ip c3 h
      refine wt_iconst hE (1 : Int32) wp_md_wordOf_131_d18 wt_ci_1 ?_
      refine wt_goto hE 23 wp_md_wordOf_131_d19 rfl ?_
      exact wp_md_wordOf_131_B23_ok hE hR hD hA_a3 hd_a3 hK3 h
noncomputable def wp_md_wordOf_131 (n : Nat) (a3 : Nat) (x1 : Int32) (x4 : Int32) (σ : wt_St) : Option (Int32 × wt_St) :=
  wt_it (wp_md_wordOf_131_B3 n a3 x1 x4) n ((0 : Int32), σ)
set_option maxRecDepth 100000 in
set_option maxHeartbeats 4000000 in
theorem wp_md_wordOf_131_ok {l : Launch} {w : wt_E} {n : Nat} {a3 : Nat} {x1 : Int32} {x4 : Int32} (hD : ∀ i, 108 ≤ i → i < 321 → wt_dom w i) (hA_a3 : wt_LAY[a3]? = some (0, wt_ln a3, [])) (hd_a3 : wt_dom w a3) {σ : wt_St} {q : Int32 × wt_St} (h : wp_md_wordOf_131 n a3 x1 x4 σ = some q) : wt_Ctr l w wt_y_md_wordOf prog_13_method_25_code 8 (some .int) 1 [.ref (wt_ad w 108), .int x1, .ref (wt_ad w 131), .ref (wt_ad w a3), .int x4] σ (some q.1) q.2 := by
  refine wt_ctr wt_pl_md_wordOf rfl (Nat.le_of_ble_eq_true rfl) [some (.ref (wt_ad w 108)), some (.int x1), some (.ref (wt_ad w 131)), some (.ref (wt_ad w a3)), some (.int x4), none, none, none] rfl ?_
  intro X hXl hXw hE hR
  subst hXl
  subst hXw
  have hE : wt_Ok X prog_13_method_25_code 8 "WornTypeModel" 1 0 := hE
  unfold wp_md_wordOf_131 at h
  refine wt_iconst hE (0 : Int32) wp_md_wordOf_131_d0 wt_ci_0 ?_
  refine wt_istore hE [some (.ref (wt_ad (wt_xw X) 108)), some (.int x1), some (.ref (wt_ad (wt_xw X) 131)), some (.ref (wt_ad (wt_xw X) a3)), some (.int x4), some (.int (0 : Int32)), none, none] wp_md_wordOf_131_d1 (Nat.le_of_ble_eq_true rfl) rfl ?_
  exact wt_it_ind (fun z => wt_V X 0 z.2 3 [some (.ref (wt_ad (wt_xw X) 108)), some (.int x1), some (.ref (wt_ad (wt_xw X) 131)), some (.ref (wt_ad (wt_xw X) a3)), some (.int x4), some (.int z.1), none, none] []) (fun K hK z h => wp_md_wordOf_131_B3_ok hE hR hD hA_a3 hd_a3 hK h) n ((0 : Int32), σ) h
theorem wp_md_wordOf_192_d0 : decode prog_13_method_25_code 0 = .ok (.iconst 0, 1) := wt_op3 wb19m9_prog_13_method_25_code_c0 0 rfl rfl
theorem wp_md_wordOf_192_d1 : decode prog_13_method_25_code 1 = .ok (.istore 5, 2) := wt_op54 wb19m9_prog_13_method_25_code_c0 1 rfl rfl
theorem wp_md_wordOf_192_d3 : decode prog_13_method_25_code 3 = .ok (.iload 5, 2) := wt_op21 wb19m9_prog_13_method_25_code_c0 3 rfl rfl
theorem wp_md_wordOf_192_d5 : decode prog_13_method_25_code 5 = .ok (.iload 4, 2) := wt_op21 wb19m9_prog_13_method_25_code_c0 5 rfl rfl
theorem wp_md_wordOf_192_d7 : decode prog_13_method_25_code 7 = .ok (.if_icmp .ge 83, 3) := wt_op162 wb19m9_prog_13_method_25_code_c0 7 rfl rfl rfl
theorem wp_md_wordOf_192_d10 : decode prog_13_method_25_code 10 = .ok (.aload_n 3, 1) := wt_op45 wb19m9_prog_13_method_25_code_c0 10 rfl rfl
theorem wp_md_wordOf_192_d11 : decode prog_13_method_25_code 11 = .ok (.iload 5, 2) := wt_op21 wb19m9_prog_13_method_25_code_c0 11 rfl rfl
theorem wp_md_wordOf_192_d13 : decode prog_13_method_25_code 13 = .ok (.iaload, 1) := wt_op46 wb19m9_prog_13_method_25_code_c0 13 rfl rfl
theorem wp_md_wordOf_192_d14 : decode prog_13_method_25_code 14 = .ok (.iload_n 1, 1) := wt_op27 wb19m9_prog_13_method_25_code_c0 14 rfl rfl
theorem wp_md_wordOf_192_d15 : decode prog_13_method_25_code 15 = .ok (.if_icmp .ne 7, 3) := wt_op160 wb19m9_prog_13_method_25_code_c0 15 rfl rfl rfl
theorem wp_md_wordOf_192_d18 : decode prog_13_method_25_code 18 = .ok (.iconst 1, 1) := wt_op4 wb19m9_prog_13_method_25_code_c0 18 rfl rfl
theorem wp_md_wordOf_192_d19 : decode prog_13_method_25_code 19 = .ok (.goto 4, 3) := wt_op167 wb19m9_prog_13_method_25_code_c0 19 rfl rfl rfl
theorem wp_md_wordOf_192_d22 : decode prog_13_method_25_code 22 = .ok (.iconst 0, 1) := wt_op3 wb19m9_prog_13_method_25_code_c0 22 rfl rfl
theorem wp_md_wordOf_192_d23 : decode prog_13_method_25_code 23 = .ok (.istore 6, 2) := wt_op54 wb19m9_prog_13_method_25_code_c0 23 rfl rfl
theorem wp_md_wordOf_192_d25 : decode prog_13_method_25_code 25 = .ok (.iconst 0, 1) := wt_op3 wb19m9_prog_13_method_25_code_c0 25 rfl rfl
theorem wp_md_wordOf_192_d26 : decode prog_13_method_25_code 26 = .ok (.istore 7, 2) := wt_op54 wb19m9_prog_13_method_25_code_c0 26 rfl rfl
theorem wp_md_wordOf_192_d28 : decode prog_13_method_25_code 28 = .ok (.iload 7, 2) := wt_op21 wb19m9_prog_13_method_25_code_c1 0 rfl rfl
theorem wp_md_wordOf_192_d30 : decode prog_13_method_25_code 30 = .ok (.iload_n 1, 1) := wt_op27 wb19m9_prog_13_method_25_code_c1 2 rfl rfl
theorem wp_md_wordOf_192_d31 : decode prog_13_method_25_code 31 = .ok (.if_icmp .ge 45, 3) := wt_op162 wb19m9_prog_13_method_25_code_c1 3 rfl rfl rfl
theorem wp_md_wordOf_192_d34 : decode prog_13_method_25_code 34 = .ok (.iload 6, 2) := wt_op21 wb19m9_prog_13_method_25_code_c1 6 rfl rfl
theorem wp_md_wordOf_192_d36 : decode prog_13_method_25_code 36 = .ok (.ifCond .eq 40, 3) := wt_op153 wb19m9_prog_13_method_25_code_c1 8 rfl rfl rfl
theorem wp_md_wordOf_192_d39 : decode prog_13_method_25_code 39 = .ok (.aload_n 2, 1) := wt_op44 wb19m9_prog_13_method_25_code_c1 11 rfl rfl
theorem wp_md_wordOf_192_d40 : decode prog_13_method_25_code 40 = .ok (.iload 5, 2) := wt_op21 wb19m9_prog_13_method_25_code_c1 12 rfl rfl
theorem wp_md_wordOf_192_d42 : decode prog_13_method_25_code 42 = .ok (.aaload, 1) := wt_op50 wb19m9_prog_13_method_25_code_c1 14 rfl rfl
theorem wp_md_wordOf_192_d43 : decode prog_13_method_25_code 43 = .ok (.iload 7, 2) := wt_op21 wb19m9_prog_13_method_25_code_c1 15 rfl rfl
theorem wp_md_wordOf_192_d45 : decode prog_13_method_25_code 45 = .ok (.iaload, 1) := wt_op46 wb19m9_prog_13_method_25_code_c1 17 rfl rfl
theorem wp_md_wordOf_192_d46 : decode prog_13_method_25_code 46 = .ok (.aload_n 0, 1) := wt_op42 wb19m9_prog_13_method_25_code_c1 18 rfl rfl
theorem wp_md_wordOf_192_d47 : decode prog_13_method_25_code 47 = .ok (.aload_n 0, 1) := wt_op42 wb19m9_prog_13_method_25_code_c1 19 rfl rfl
theorem wp_md_wordOf_192_d48 : decode prog_13_method_25_code 48 = .ok (.getfield 160, 3) := wt_op180 wb19m9_prog_13_method_25_code_c1 20 rfl rfl rfl
theorem wp_md_wordOf_192_d51 : decode prog_13_method_25_code 51 = .ok (.iload 7, 2) := wt_op21 wb19m9_prog_13_method_25_code_c1 23 rfl rfl
theorem wp_md_wordOf_192_d53 : decode prog_13_method_25_code 53 = .ok (.iadd, 1) := wt_op96 wb19m9_prog_13_method_25_code_c1 25 rfl rfl
theorem wp_md_wordOf_192_d54 : decode prog_13_method_25_code 54 = .ok (.invokevirtual 163, 3) := wt_op182 wb19m9_prog_13_method_25_code_c1 26 rfl rfl rfl
theorem wp_md_wordOf_192_d57 : decode prog_13_method_25_code 57 = .ok (.bipush 97, 2) := wt_op16 wb19m9_prog_13_method_25_code_c2 0 rfl rfl rfl
theorem wp_md_wordOf_192_d59 : decode prog_13_method_25_code 59 = .ok (.isub, 1) := wt_op100 wb19m9_prog_13_method_25_code_c2 2 rfl rfl
theorem wp_md_wordOf_192_d60 : decode prog_13_method_25_code 60 = .ok (.if_icmp .ne 7, 3) := wt_op160 wb19m9_prog_13_method_25_code_c2 3 rfl rfl rfl
theorem wp_md_wordOf_192_d63 : decode prog_13_method_25_code 63 = .ok (.iconst 1, 1) := wt_op4 wb19m9_prog_13_method_25_code_c2 6 rfl rfl
theorem wp_md_wordOf_192_d64 : decode prog_13_method_25_code 64 = .ok (.goto 4, 3) := wt_op167 wb19m9_prog_13_method_25_code_c2 7 rfl rfl rfl
theorem wp_md_wordOf_192_d67 : decode prog_13_method_25_code 67 = .ok (.iconst 0, 1) := wt_op3 wb19m9_prog_13_method_25_code_c2 10 rfl rfl
theorem wp_md_wordOf_192_d68 : decode prog_13_method_25_code 68 = .ok (.istore 6, 2) := wt_op54 wb19m9_prog_13_method_25_code_c2 11 rfl rfl
theorem wp_md_wordOf_192_d70 : decode prog_13_method_25_code 70 = .ok (.iinc 7 1, 3) := wt_op132 wb19m9_prog_13_method_25_code_c2 13 rfl rfl rfl
theorem wp_md_wordOf_192_d73 : decode prog_13_method_25_code 73 = .ok (.goto (-45), 3) := wt_op167 wb19m9_prog_13_method_25_code_c2 16 rfl rfl rfl
theorem wp_md_wordOf_192_d76 : decode prog_13_method_25_code 76 = .ok (.iload 6, 2) := wt_op21 wb19m9_prog_13_method_25_code_c2 19 rfl rfl
theorem wp_md_wordOf_192_d78 : decode prog_13_method_25_code 78 = .ok (.ifCond .eq 6, 3) := wt_op153 wb19m9_prog_13_method_25_code_c2 21 rfl rfl rfl
theorem wp_md_wordOf_192_d81 : decode prog_13_method_25_code 81 = .ok (.iload 5, 2) := wt_op21 wb19m9_prog_13_method_25_code_c2 24 rfl rfl
theorem wp_md_wordOf_192_d83 : decode prog_13_method_25_code 83 = .ok (.ireturn, 1) := wt_op172 wb19m9_prog_13_method_25_code_c2 26 rfl rfl
theorem wp_md_wordOf_192_d84 : decode prog_13_method_25_code 84 = .ok (.iinc 5 1, 3) := wt_op132 wb19m9_prog_13_method_25_code_c2 27 rfl rfl rfl
theorem wp_md_wordOf_192_d87 : decode prog_13_method_25_code 87 = .ok (.goto (-84), 3) := wt_op167 wb19m9_prog_13_method_25_code_c3 0 rfl rfl rfl
theorem wp_md_wordOf_192_d90 : decode prog_13_method_25_code 90 = .ok (.iconst (-1), 1) := wt_op2 wb19m9_prog_13_method_25_code_c3 3 rfl rfl
theorem wp_md_wordOf_192_d91 : decode prog_13_method_25_code 91 = .ok (.ireturn, 1) := wt_op172 wb19m9_prog_13_method_25_code_c3 4 rfl rfl
noncomputable def wp_md_wordOf_192_B76 (n : Nat) (a3 : Nat) (x1 : Int32) (x4 : Int32) (x5 : Int32) (x6 : Int32) (K3 : Int32 × wt_St → Option (Int32 × wt_St)) (σ : wt_St) : Option (Int32 × wt_St) :=
  if x6 = 0 then
    K3 ((x5 + (1 : Int32)), σ)
  else
    some (x5, σ)
set_option maxRecDepth 100000 in
set_option maxHeartbeats 4000000 in
theorem wp_md_wordOf_192_B76_ok  {a3 : Nat} {x1 : Int32} {x4 : Int32} {x5 : Int32} {x6 : Int32} {X : wt_X} {n : Nat} {res : Int32 × wt_St} (hE : wt_Ok X prog_13_method_25_code 8 "WornTypeModel" 1 0) (hR : wt_Rt X (some .int) (some res.1) res.2) (hD : ∀ i, 108 ≤ i → i < 321 → wt_dom (wt_xw X) i) (hA_a3 : wt_LAY[a3]? = some (0, wt_ln a3, [])) (hd_a3 : wt_dom (wt_xw X) a3) {K3 : Int32 × wt_St → Option (Int32 × wt_St)} (hK3 : ∀ s : Int32 × wt_St, K3 s = some res → wt_V X 0 s.2 3 [some (.ref (wt_ad (wt_xw X) 108)), some (.int x1), some (.ref (wt_ad (wt_xw X) 192)), some (.ref (wt_ad (wt_xw X) a3)), some (.int x4), some (.int s.1), none, none] []) {σ : wt_St} (h : wp_md_wordOf_192_B76 n a3 x1 x4 x5 x6 K3 σ = some res) : wt_V X 0 σ 76 [some (.ref (wt_ad (wt_xw X) 108)), some (.int x1), some (.ref (wt_ad (wt_xw X) 192)), some (.ref (wt_ad (wt_xw X) a3)), some (.int x4), some (.int x5), some (.int x6), none] [] := by
  unfold wp_md_wordOf_192_B76 at h
  refine wt_iload hE wp_md_wordOf_192_d76 rfl ?_
  refine wt_if_eq hE 84 wp_md_wordOf_192_d78 rfl (fun c5 => ?_) (fun c5 => ?_)
  · have h := wt_ip c5 h
    refine wt_iinc hE (x5 + (1 : Int32)) [some (.ref (wt_ad (wt_xw X) 108)), some (.int x1), some (.ref (wt_ad (wt_xw X) 192)), some (.ref (wt_ad (wt_xw X) a3)), some (.int x4), some (.int (x5 + (1 : Int32))), some (.int x6), none] wp_md_wordOf_192_d84 (by decide) rfl rfl rfl ?_
    refine wt_goto hE 3 wp_md_wordOf_192_d87 rfl ?_
    refine wt_wk [true, true, true, true, true, true, false, true] rfl ?_
    exact hK3 ((x5 + (1 : Int32)), σ) h
  · have h := wt_in c5 h
    refine wt_iload hE wp_md_wordOf_192_d81 rfl ?_
    cases h
    exact wt_iret hE hR wp_md_wordOf_192_d83
noncomputable def wp_md_wordOf_192_B68 (n : Nat) (a3 : Nat) (x1 : Int32) (x4 : Int32) (x5 : Int32) (x7 : Int32) (K3 : Int32 × wt_St → Option (Int32 × wt_St)) (K28 : Int32 × Int32 × wt_St → Option (Int32 × wt_St)) (y0 : Int32) (σ : wt_St) : Option (Int32 × wt_St) :=
  K28 (y0, (x7 + (1 : Int32)), σ)
set_option maxRecDepth 100000 in
set_option maxHeartbeats 4000000 in
theorem wp_md_wordOf_192_B68_ok  {a3 : Nat} {x1 : Int32} {x4 : Int32} {x5 : Int32} {x7 : Int32} {X : wt_X} {n : Nat} {res : Int32 × wt_St} (hE : wt_Ok X prog_13_method_25_code 8 "WornTypeModel" 1 0) (hR : wt_Rt X (some .int) (some res.1) res.2) (hD : ∀ i, 108 ≤ i → i < 321 → wt_dom (wt_xw X) i) (hA_a3 : wt_LAY[a3]? = some (0, wt_ln a3, [])) (hd_a3 : wt_dom (wt_xw X) a3) {K3 : Int32 × wt_St → Option (Int32 × wt_St)} (hK3 : ∀ s : Int32 × wt_St, K3 s = some res → wt_V X 0 s.2 3 [some (.ref (wt_ad (wt_xw X) 108)), some (.int x1), some (.ref (wt_ad (wt_xw X) 192)), some (.ref (wt_ad (wt_xw X) a3)), some (.int x4), some (.int s.1), none, none] []) {K28 : Int32 × Int32 × wt_St → Option (Int32 × wt_St)} (hK28 : ∀ s : Int32 × Int32 × wt_St, K28 s = some res → wt_V X 0 s.2.2 28 [some (.ref (wt_ad (wt_xw X) 108)), some (.int x1), some (.ref (wt_ad (wt_xw X) 192)), some (.ref (wt_ad (wt_xw X) a3)), some (.int x4), some (.int x5), some (.int s.1), some (.int s.2.1)] []) {σ : wt_St} {y0 : Int32} (h : wp_md_wordOf_192_B68 n a3 x1 x4 x5 x7 K3 K28 y0 σ = some res) : wt_V X 0 σ 68 [some (.ref (wt_ad (wt_xw X) 108)), some (.int x1), some (.ref (wt_ad (wt_xw X) 192)), some (.ref (wt_ad (wt_xw X) a3)), some (.int x4), some (.int x5), none, some (.int x7)] [.int y0] := by
  unfold wp_md_wordOf_192_B68 at h
  refine wt_istore hE [some (.ref (wt_ad (wt_xw X) 108)), some (.int x1), some (.ref (wt_ad (wt_xw X) 192)), some (.ref (wt_ad (wt_xw X) a3)), some (.int x4), some (.int x5), some (.int y0), some (.int x7)] wp_md_wordOf_192_d68 (Nat.le_of_ble_eq_true rfl) rfl ?_
  refine wt_iinc hE (x7 + (1 : Int32)) [some (.ref (wt_ad (wt_xw X) 108)), some (.int x1), some (.ref (wt_ad (wt_xw X) 192)), some (.ref (wt_ad (wt_xw X) a3)), some (.int x4), some (.int x5), some (.int y0), some (.int (x7 + (1 : Int32)))] wp_md_wordOf_192_d70 (by decide) rfl rfl rfl ?_
  refine wt_goto hE 28 wp_md_wordOf_192_d73 rfl ?_
  exact hK28 (y0, (x7 + (1 : Int32)), σ) h
noncomputable def wp_md_wordOf_192_B28 (n : Nat) (a3 : Nat) (x1 : Int32) (x4 : Int32) (x5 : Int32) (K3 : Int32 × wt_St → Option (Int32 × wt_St)) (K28 : Int32 × Int32 × wt_St → Option (Int32 × wt_St)) (s : Int32 × Int32 × wt_St) : Option (Int32 × wt_St) :=
  if x1 ≤ s.2.1 then
    wp_md_wordOf_192_B76 n a3 x1 x4 x5 s.1 K3 s.2.2
  else
    if s.1 = 0 then
      wp_md_wordOf_192_B76 n a3 x1 x4 x5 s.1 K3 s.2.2
    else
      if x5 < 0 ∨ 60 ≤ Int32.toNatClampNeg x5 then none else
      if s.2.1 < 0 ∨ 9 ≤ Int32.toNatClampNeg s.2.1 then none else
      (wp_md_byteAt n ((wt_gf s.2.2 108 4) + s.2.1) s.2.2).bind fun q9 =>
      if (wt_ga s.2.2 (193 + Int32.toNatClampNeg x5) (Int32.toNatClampNeg s.2.1)) = (q9.1 - (97 : Int32)) then
        wp_md_wordOf_192_B68 n a3 x1 x4 x5 s.2.1 K3 K28 (1 : Int32) q9.2
      else
        wp_md_wordOf_192_B68 n a3 x1 x4 x5 s.2.1 K3 K28 (0 : Int32) q9.2
set_option maxRecDepth 100000 in
set_option maxHeartbeats 4000000 in
theorem wp_md_wordOf_192_B28_ok  {a3 : Nat} {x1 : Int32} {x4 : Int32} {x5 : Int32} {X : wt_X} {n : Nat} {res : Int32 × wt_St} (hE : wt_Ok X prog_13_method_25_code 8 "WornTypeModel" 1 0) (hR : wt_Rt X (some .int) (some res.1) res.2) (hD : ∀ i, 108 ≤ i → i < 321 → wt_dom (wt_xw X) i) (hA_a3 : wt_LAY[a3]? = some (0, wt_ln a3, [])) (hd_a3 : wt_dom (wt_xw X) a3) {K3 : Int32 × wt_St → Option (Int32 × wt_St)} (hK3 : ∀ s : Int32 × wt_St, K3 s = some res → wt_V X 0 s.2 3 [some (.ref (wt_ad (wt_xw X) 108)), some (.int x1), some (.ref (wt_ad (wt_xw X) 192)), some (.ref (wt_ad (wt_xw X) a3)), some (.int x4), some (.int s.1), none, none] []) {K28 : Int32 × Int32 × wt_St → Option (Int32 × wt_St)} (hK28 : ∀ s : Int32 × Int32 × wt_St, K28 s = some res → wt_V X 0 s.2.2 28 [some (.ref (wt_ad (wt_xw X) 108)), some (.int x1), some (.ref (wt_ad (wt_xw X) 192)), some (.ref (wt_ad (wt_xw X) a3)), some (.int x4), some (.int x5), some (.int s.1), some (.int s.2.1)] []) {s : Int32 × Int32 × wt_St} (h : wp_md_wordOf_192_B28 n a3 x1 x4 x5 K3 K28 s = some res) : wt_V X 0 s.2.2 28 [some (.ref (wt_ad (wt_xw X) 108)), some (.int x1), some (.ref (wt_ad (wt_xw X) 192)), some (.ref (wt_ad (wt_xw X) a3)), some (.int x4), some (.int x5), some (.int s.1), some (.int s.2.1)] [] := by
  unfold wp_md_wordOf_192_B28 at h
  refine wt_iload hE wp_md_wordOf_192_d28 rfl ?_
  refine wt_iload_n hE wp_md_wordOf_192_d30 rfl ?_
  refine wt_icmp_ge hE 76 wp_md_wordOf_192_d31 rfl (fun c4 => ?_) (fun c4 => ?_)
  · have h := wt_ip c4 h
    refine wt_wk [true, true, true, true, true, true, true, false] rfl ?_
    exact wp_md_wordOf_192_B76_ok hE hR hD hA_a3 hd_a3 hK3 h
  · have h := wt_in c4 h
    refine wt_iload hE wp_md_wordOf_192_d34 rfl ?_
    refine wt_if_eq hE 76 wp_md_wordOf_192_d36 rfl (fun c6 => ?_) (fun c6 => ?_)
    · have h := wt_ip c6 h
      refine wt_wk [true, true, true, true, true, true, true, false] rfl ?_
      exact wp_md_wordOf_192_B76_ok hE hR hD hA_a3 hd_a3 hK3 h
    · have h := wt_in c6 h
      refine wt_aload_n hE wp_md_wordOf_192_d39 rfl ?_
      refine wt_iload hE wp_md_wordOf_192_d40 rfl ?_
      obtain ⟨g7, h⟩ := wt_gd h
      have lg7 := wt_lt g7
      refine wt_aald1 hE (hD 192 (by decide) (by decide)) wt_L192 g7 wp_md_wordOf_192_d42 ?_
      refine wt_iload hE wp_md_wordOf_192_d43 rfl ?_
      obtain ⟨g8, h⟩ := wt_gd h
      refine wt_iald hE (hD _ (by omega) (by omega)) (wt_G193 _ lg7) g8 wp_md_wordOf_192_d45 ?_
      refine wt_aload_n hE wp_md_wordOf_192_d46 rfl ?_
      refine wt_aload_n hE wp_md_wordOf_192_d47 rfl ?_
      refine wt_geti hE wt_lf_md_160 (hD 108 (by decide) (by decide)) wt_L108 rfl wp_md_wordOf_192_d48 ?_
      refine wt_iload hE wp_md_wordOf_192_d51 rfl ?_
      refine wt_iadd hE wp_md_wordOf_192_d53 ?_
      obtain ⟨q9, hq9, h⟩ := wt_bi h
      refine wt_callVi hE [.int ((wt_gf s.2.2 108 4) + s.2.1)] wt_lm_md_163 wt_ya_md_byteAt (wp_md_byteAt_ok hD hq9) (by omega) (hD 108 (by decide) (by decide)) wt_L108 rfl rfl rfl (Nat.le_of_ble_eq_true rfl) (Nat.zero_le _) wp_md_wordOf_192_d54 (fun hbq9 => ?_)
      refine wt_bipush hE (97 : Int32) wp_md_wordOf_192_d57 wt_cb_97 ?_
      refine wt_isub hE wp_md_wordOf_192_d59 ?_
      refine wt_icmp_ne hE 67 wp_md_wordOf_192_d60 rfl (fun c10 => ?_) (fun c10 => ?_)
      · have h := wt_in c10 h
        refine wt_iconst hE (0 : Int32) wp_md_wordOf_192_d67 wt_ci_0 ?_
        refine wt_wk [true, true, true, true, true, true, false, true] rfl ?_
        exact wp_md_wordOf_192_B68_ok hE hR hD hA_a3 hd_a3 hK3 hK28 h
      · have h := wt_ip c10 h
        refine wt_iconst hE (1 : Int32) wp_md_wordOf_192_d63 wt_ci_1 ?_
        refine wt_goto hE 68 wp_md_wordOf_192_d64 rfl ?_
        refine wt_wk [true, true, true, true, true, true, false, true] rfl ?_
        exact wp_md_wordOf_192_B68_ok hE hR hD hA_a3 hd_a3 hK3 hK28 h
noncomputable def wp_md_wordOf_192_B23 (n : Nat) (a3 : Nat) (x1 : Int32) (x4 : Int32) (x5 : Int32) (K3 : Int32 × wt_St → Option (Int32 × wt_St)) (y0 : Int32) (σ : wt_St) : Option (Int32 × wt_St) :=
  wt_it (wp_md_wordOf_192_B28 n a3 x1 x4 x5 K3) n (y0, (0 : Int32), σ)
set_option maxRecDepth 100000 in
set_option maxHeartbeats 4000000 in
theorem wp_md_wordOf_192_B23_ok  {a3 : Nat} {x1 : Int32} {x4 : Int32} {x5 : Int32} {X : wt_X} {n : Nat} {res : Int32 × wt_St} (hE : wt_Ok X prog_13_method_25_code 8 "WornTypeModel" 1 0) (hR : wt_Rt X (some .int) (some res.1) res.2) (hD : ∀ i, 108 ≤ i → i < 321 → wt_dom (wt_xw X) i) (hA_a3 : wt_LAY[a3]? = some (0, wt_ln a3, [])) (hd_a3 : wt_dom (wt_xw X) a3) {K3 : Int32 × wt_St → Option (Int32 × wt_St)} (hK3 : ∀ s : Int32 × wt_St, K3 s = some res → wt_V X 0 s.2 3 [some (.ref (wt_ad (wt_xw X) 108)), some (.int x1), some (.ref (wt_ad (wt_xw X) 192)), some (.ref (wt_ad (wt_xw X) a3)), some (.int x4), some (.int s.1), none, none] []) {σ : wt_St} {y0 : Int32} (h : wp_md_wordOf_192_B23 n a3 x1 x4 x5 K3 y0 σ = some res) : wt_V X 0 σ 23 [some (.ref (wt_ad (wt_xw X) 108)), some (.int x1), some (.ref (wt_ad (wt_xw X) 192)), some (.ref (wt_ad (wt_xw X) a3)), some (.int x4), some (.int x5), none, none] [.int y0] := by
  unfold wp_md_wordOf_192_B23 at h
  refine wt_istore hE [some (.ref (wt_ad (wt_xw X) 108)), some (.int x1), some (.ref (wt_ad (wt_xw X) 192)), some (.ref (wt_ad (wt_xw X) a3)), some (.int x4), some (.int x5), some (.int y0), none] wp_md_wordOf_192_d23 (Nat.le_of_ble_eq_true rfl) rfl ?_
  refine wt_iconst hE (0 : Int32) wp_md_wordOf_192_d25 wt_ci_0 ?_
  refine wt_istore hE [some (.ref (wt_ad (wt_xw X) 108)), some (.int x1), some (.ref (wt_ad (wt_xw X) 192)), some (.ref (wt_ad (wt_xw X) a3)), some (.int x4), some (.int x5), some (.int y0), some (.int (0 : Int32))] wp_md_wordOf_192_d26 (Nat.le_of_ble_eq_true rfl) rfl ?_
  exact wt_it_ind (fun z => wt_V X 0 z.2.2 28 [some (.ref (wt_ad (wt_xw X) 108)), some (.int x1), some (.ref (wt_ad (wt_xw X) 192)), some (.ref (wt_ad (wt_xw X) a3)), some (.int x4), some (.int x5), some (.int z.1), some (.int z.2.1)] []) (fun K hK z h => wp_md_wordOf_192_B28_ok hE hR hD hA_a3 hd_a3 hK3 hK h) n (y0, (0 : Int32), σ) h
noncomputable def wp_md_wordOf_192_B3 (n : Nat) (a3 : Nat) (x1 : Int32) (x4 : Int32) (K3 : Int32 × wt_St → Option (Int32 × wt_St)) (s : Int32 × wt_St) : Option (Int32 × wt_St) :=
  if x4 ≤ s.1 then
    some ((-1 : Int32), s.2)
  else
    if s.1 < 0 ∨ (wt_ln a3) ≤ Int32.toNatClampNeg s.1 then none else
    if (wt_ga s.2 a3 (Int32.toNatClampNeg s.1)) = x1 then
      wp_md_wordOf_192_B23 n a3 x1 x4 s.1 K3 (1 : Int32) s.2
    else
      wp_md_wordOf_192_B23 n a3 x1 x4 s.1 K3 (0 : Int32) s.2
set_option maxRecDepth 100000 in
set_option maxHeartbeats 4000000 in
theorem wp_md_wordOf_192_B3_ok  {a3 : Nat} {x1 : Int32} {x4 : Int32} {X : wt_X} {n : Nat} {res : Int32 × wt_St} (hE : wt_Ok X prog_13_method_25_code 8 "WornTypeModel" 1 0) (hR : wt_Rt X (some .int) (some res.1) res.2) (hD : ∀ i, 108 ≤ i → i < 321 → wt_dom (wt_xw X) i) (hA_a3 : wt_LAY[a3]? = some (0, wt_ln a3, [])) (hd_a3 : wt_dom (wt_xw X) a3) {K3 : Int32 × wt_St → Option (Int32 × wt_St)} (hK3 : ∀ s : Int32 × wt_St, K3 s = some res → wt_V X 0 s.2 3 [some (.ref (wt_ad (wt_xw X) 108)), some (.int x1), some (.ref (wt_ad (wt_xw X) 192)), some (.ref (wt_ad (wt_xw X) a3)), some (.int x4), some (.int s.1), none, none] []) {s : Int32 × wt_St} (h : wp_md_wordOf_192_B3 n a3 x1 x4 K3 s = some res) : wt_V X 0 s.2 3 [some (.ref (wt_ad (wt_xw X) 108)), some (.int x1), some (.ref (wt_ad (wt_xw X) 192)), some (.ref (wt_ad (wt_xw X) a3)), some (.int x4), some (.int s.1), none, none] [] := by
  unfold wp_md_wordOf_192_B3 at h
  refine wt_iload hE wp_md_wordOf_192_d3 rfl ?_
  refine wt_iload hE wp_md_wordOf_192_d5 rfl ?_
  refine wt_icmp_ge hE 90 wp_md_wordOf_192_d7 rfl (fun c1 => ?_) (fun c1 => ?_)
  · have h := wt_ip c1 h
    refine wt_iconst hE (-1 : Int32) wp_md_wordOf_192_d90 wt_ci_m1 ?_
    cases h
    exact wt_iret hE hR wp_md_wordOf_192_d91
  · have h := wt_in c1 h
    refine wt_aload_n hE wp_md_wordOf_192_d10 rfl ?_
    refine wt_iload hE wp_md_wordOf_192_d11 rfl ?_
    obtain ⟨g2, h⟩ := wt_gd h
    refine wt_iald hE hd_a3 hA_a3 g2 wp_md_wordOf_192_d13 ?_
    refine wt_iload_n hE wp_md_wordOf_192_d14 rfl ?_
    refine wt_icmp_ne hE 22 wp_md_wordOf_192_d15 rfl (fun c3 => ?_) (fun c3 => ?_)
    · have h := wt_in c3 h
      refine wt_iconst hE (0 : Int32) wp_md_wordOf_192_d22 wt_ci_0 ?_
      exact wp_md_wordOf_192_B23_ok hE hR hD hA_a3 hd_a3 hK3 h
    · have h := wt_ip c3 h
      refine wt_iconst hE (1 : Int32) wp_md_wordOf_192_d18 wt_ci_1 ?_
      refine wt_goto hE 23 wp_md_wordOf_192_d19 rfl ?_
      exact wp_md_wordOf_192_B23_ok hE hR hD hA_a3 hd_a3 hK3 h
noncomputable def wp_md_wordOf_192 (n : Nat) (a3 : Nat) (x1 : Int32) (x4 : Int32) (σ : wt_St) : Option (Int32 × wt_St) :=
  wt_it (wp_md_wordOf_192_B3 n a3 x1 x4) n ((0 : Int32), σ)
set_option maxRecDepth 100000 in
set_option maxHeartbeats 4000000 in
theorem wp_md_wordOf_192_ok {l : Launch} {w : wt_E} {n : Nat} {a3 : Nat} {x1 : Int32} {x4 : Int32} (hD : ∀ i, 108 ≤ i → i < 321 → wt_dom w i) (hA_a3 : wt_LAY[a3]? = some (0, wt_ln a3, [])) (hd_a3 : wt_dom w a3) {σ : wt_St} {q : Int32 × wt_St} (h : wp_md_wordOf_192 n a3 x1 x4 σ = some q) : wt_Ctr l w wt_y_md_wordOf prog_13_method_25_code 8 (some .int) 1 [.ref (wt_ad w 108), .int x1, .ref (wt_ad w 192), .ref (wt_ad w a3), .int x4] σ (some q.1) q.2 := by
  refine wt_ctr wt_pl_md_wordOf rfl (Nat.le_of_ble_eq_true rfl) [some (.ref (wt_ad w 108)), some (.int x1), some (.ref (wt_ad w 192)), some (.ref (wt_ad w a3)), some (.int x4), none, none, none] rfl ?_
  intro X hXl hXw hE hR
  subst hXl
  subst hXw
  have hE : wt_Ok X prog_13_method_25_code 8 "WornTypeModel" 1 0 := hE
  unfold wp_md_wordOf_192 at h
  refine wt_iconst hE (0 : Int32) wp_md_wordOf_192_d0 wt_ci_0 ?_
  refine wt_istore hE [some (.ref (wt_ad (wt_xw X) 108)), some (.int x1), some (.ref (wt_ad (wt_xw X) 192)), some (.ref (wt_ad (wt_xw X) a3)), some (.int x4), some (.int (0 : Int32)), none, none] wp_md_wordOf_192_d1 (Nat.le_of_ble_eq_true rfl) rfl ?_
  exact wt_it_ind (fun z => wt_V X 0 z.2 3 [some (.ref (wt_ad (wt_xw X) 108)), some (.int x1), some (.ref (wt_ad (wt_xw X) 192)), some (.ref (wt_ad (wt_xw X) a3)), some (.int x4), some (.int z.1), none, none] []) (fun K hK z h => wp_md_wordOf_192_B3_ok hE hR hD hA_a3 hd_a3 hK h) n ((0 : Int32), σ) h
def wb19m9_prog_13_method_26_code_r8 : List (List Nat) := [42, 180, 0, 74, 42, 180, 0, 246, 42, 180, 0, 253, 4, 100, 79, 42, 89, 180, 0, 246, 4, 96, 181, 0, 246, 177] :: []
def wb19m9_prog_13_method_26_code_r7 : List (List Nat) := [180, 0, 68, 42, 180, 0, 246, 42, 3, 6, 182, 0, 219, 79, 27, 154, 0, 13, 42, 89, 180, 0, 253, 4, 96, 181, 0, 253] :: wb19m9_prog_13_method_26_code_r8
def wb19m9_prog_13_method_26_code_r6 : List (List Nat) := [42, 182, 0, 173, 42, 42, 180, 0, 160, 182, 0, 163, 16, 47, 160, 0, 28, 42, 89, 180, 0, 160, 4, 96, 181, 0, 160, 42] :: wb19m9_prog_13_method_26_code_r7
def wb19m9_prog_13_method_26_code_r5 : List (List Nat) := [100, 79, 132, 4, 1, 167, 255, 221, 42, 89, 180, 0, 160, 28, 96, 181, 0, 160, 42, 180, 0, 68, 42, 180, 0, 246, 3, 79] :: wb19m9_prog_13_method_26_code_r6
def wb19m9_prog_13_method_26_code_r4 : List (List Nat) := [28, 162, 0, 35, 42, 180, 0, 82, 42, 180, 0, 246, 50, 21, 4, 42, 42, 180, 0, 160, 21, 4, 96, 182, 0, 163, 16, 97] :: wb19m9_prog_13_method_26_code_r5
def wb19m9_prog_13_method_26_code_r3 : List (List Nat) := [6, 29, 182, 0, 180, 42, 180, 0, 167, 153, 0, 4, 177, 42, 180, 0, 62, 42, 180, 0, 246, 28, 79, 3, 54, 4, 21, 4] :: wb19m9_prog_13_method_26_code_r4
def wb19m9_prog_13_method_26_code_r2 : List (List Nat) := [27, 8, 159, 0, 25, 42, 180, 0, 246, 16, 60, 159, 0, 16, 27, 154, 0, 18, 42, 180, 0, 253, 16, 20, 160, 0, 9, 42] :: wb19m9_prog_13_method_26_code_r3
def wb19m9_prog_13_method_26_code_r1 : List (List Nat) := [42, 28, 42, 180, 0, 82, 42, 180, 0, 62, 42, 180, 0, 246, 182, 0, 249, 2, 159, 0, 12, 42, 5, 29, 182, 0, 180, 167, 0, 36] :: wb19m9_prog_13_method_26_code_r2
def wb19m9_prog_13_method_26_code_r0 : List (List Nat) := [42, 182, 0, 192, 61, 42, 180, 0, 160, 62, 28, 154, 0, 12, 42, 4, 29, 182, 0, 180, 167, 0, 72, 28, 16, 9, 163, 0, 24] :: wb19m9_prog_13_method_26_code_r1
set_option maxRecDepth 100000 in
theorem wb19m9_prog_13_method_26_code_c0 : wt_cs prog_13_method_26_code 0 wb19m9_prog_13_method_26_code_r0 := wt_cs_of (by decide +kernel)
theorem wb19m9_prog_13_method_26_code_c1 : wt_cs prog_13_method_26_code 29 wb19m9_prog_13_method_26_code_r1 := wt_cs_tl (m := 29) wb19m9_prog_13_method_26_code_c0 rfl rfl
theorem wb19m9_prog_13_method_26_code_c2 : wt_cs prog_13_method_26_code 59 wb19m9_prog_13_method_26_code_r2 := wt_cs_tl (m := 30) wb19m9_prog_13_method_26_code_c1 rfl rfl
theorem wb19m9_prog_13_method_26_code_c3 : wt_cs prog_13_method_26_code 87 wb19m9_prog_13_method_26_code_r3 := wt_cs_tl (m := 28) wb19m9_prog_13_method_26_code_c2 rfl rfl
theorem wb19m9_prog_13_method_26_code_c4 : wt_cs prog_13_method_26_code 115 wb19m9_prog_13_method_26_code_r4 := wt_cs_tl (m := 28) wb19m9_prog_13_method_26_code_c3 rfl rfl
theorem wb19m9_prog_13_method_26_code_c5 : wt_cs prog_13_method_26_code 143 wb19m9_prog_13_method_26_code_r5 := wt_cs_tl (m := 28) wb19m9_prog_13_method_26_code_c4 rfl rfl
theorem wb19m9_prog_13_method_26_code_c6 : wt_cs prog_13_method_26_code 171 wb19m9_prog_13_method_26_code_r6 := wt_cs_tl (m := 28) wb19m9_prog_13_method_26_code_c5 rfl rfl
theorem wb19m9_prog_13_method_26_code_c7 : wt_cs prog_13_method_26_code 199 wb19m9_prog_13_method_26_code_r7 := wt_cs_tl (m := 28) wb19m9_prog_13_method_26_code_c6 rfl rfl
theorem wb19m9_prog_13_method_26_code_c8 : wt_cs prog_13_method_26_code 227 wb19m9_prog_13_method_26_code_r8 := wt_cs_tl (m := 28) wb19m9_prog_13_method_26_code_c7 rfl rfl
theorem wp_md_reads_d0 : decode prog_13_method_26_code 0 = .ok (.aload_n 0, 1) := wt_op42 wb19m9_prog_13_method_26_code_c0 0 rfl rfl
theorem wp_md_reads_d1 : decode prog_13_method_26_code 1 = .ok (.invokevirtual 192, 3) := wt_op182 wb19m9_prog_13_method_26_code_c0 1 rfl rfl rfl
theorem wp_md_reads_d4 : decode prog_13_method_26_code 4 = .ok (.istore_n 2, 1) := wt_op61 wb19m9_prog_13_method_26_code_c0 4 rfl rfl
theorem wp_md_reads_d5 : decode prog_13_method_26_code 5 = .ok (.aload_n 0, 1) := wt_op42 wb19m9_prog_13_method_26_code_c0 5 rfl rfl
theorem wp_md_reads_d6 : decode prog_13_method_26_code 6 = .ok (.getfield 160, 3) := wt_op180 wb19m9_prog_13_method_26_code_c0 6 rfl rfl rfl
theorem wp_md_reads_d9 : decode prog_13_method_26_code 9 = .ok (.istore_n 3, 1) := wt_op62 wb19m9_prog_13_method_26_code_c0 9 rfl rfl
theorem wp_md_reads_d10 : decode prog_13_method_26_code 10 = .ok (.iload_n 2, 1) := wt_op28 wb19m9_prog_13_method_26_code_c0 10 rfl rfl
theorem wp_md_reads_d11 : decode prog_13_method_26_code 11 = .ok (.ifCond .ne 12, 3) := wt_op154 wb19m9_prog_13_method_26_code_c0 11 rfl rfl rfl
theorem wp_md_reads_d14 : decode prog_13_method_26_code 14 = .ok (.aload_n 0, 1) := wt_op42 wb19m9_prog_13_method_26_code_c0 14 rfl rfl
theorem wp_md_reads_d15 : decode prog_13_method_26_code 15 = .ok (.iconst 1, 1) := wt_op4 wb19m9_prog_13_method_26_code_c0 15 rfl rfl
theorem wp_md_reads_d16 : decode prog_13_method_26_code 16 = .ok (.iload_n 3, 1) := wt_op29 wb19m9_prog_13_method_26_code_c0 16 rfl rfl
theorem wp_md_reads_d17 : decode prog_13_method_26_code 17 = .ok (.invokevirtual 180, 3) := wt_op182 wb19m9_prog_13_method_26_code_c0 17 rfl rfl rfl
theorem wp_md_reads_d20 : decode prog_13_method_26_code 20 = .ok (.goto 72, 3) := wt_op167 wb19m9_prog_13_method_26_code_c0 20 rfl rfl rfl
theorem wp_md_reads_d23 : decode prog_13_method_26_code 23 = .ok (.iload_n 2, 1) := wt_op28 wb19m9_prog_13_method_26_code_c0 23 rfl rfl
theorem wp_md_reads_d24 : decode prog_13_method_26_code 24 = .ok (.bipush 9, 2) := wt_op16 wb19m9_prog_13_method_26_code_c0 24 rfl rfl rfl
theorem wp_md_reads_d26 : decode prog_13_method_26_code 26 = .ok (.if_icmp .gt 24, 3) := wt_op163 wb19m9_prog_13_method_26_code_c0 26 rfl rfl rfl
theorem wp_md_reads_d29 : decode prog_13_method_26_code 29 = .ok (.aload_n 0, 1) := wt_op42 wb19m9_prog_13_method_26_code_c1 0 rfl rfl
theorem wp_md_reads_d30 : decode prog_13_method_26_code 30 = .ok (.iload_n 2, 1) := wt_op28 wb19m9_prog_13_method_26_code_c1 1 rfl rfl
theorem wp_md_reads_d31 : decode prog_13_method_26_code 31 = .ok (.aload_n 0, 1) := wt_op42 wb19m9_prog_13_method_26_code_c1 2 rfl rfl
theorem wp_md_reads_d32 : decode prog_13_method_26_code 32 = .ok (.getfield 82, 3) := wt_op180 wb19m9_prog_13_method_26_code_c1 3 rfl rfl rfl
theorem wp_md_reads_d35 : decode prog_13_method_26_code 35 = .ok (.aload_n 0, 1) := wt_op42 wb19m9_prog_13_method_26_code_c1 6 rfl rfl
theorem wp_md_reads_d36 : decode prog_13_method_26_code 36 = .ok (.getfield 62, 3) := wt_op180 wb19m9_prog_13_method_26_code_c1 7 rfl rfl rfl
theorem wp_md_reads_d39 : decode prog_13_method_26_code 39 = .ok (.aload_n 0, 1) := wt_op42 wb19m9_prog_13_method_26_code_c1 10 rfl rfl
theorem wp_md_reads_d40 : decode prog_13_method_26_code 40 = .ok (.getfield 246, 3) := wt_op180 wb19m9_prog_13_method_26_code_c1 11 rfl rfl rfl
theorem wp_md_reads_d43 : decode prog_13_method_26_code 43 = .ok (.invokevirtual 249, 3) := wt_op182 wb19m9_prog_13_method_26_code_c1 14 rfl rfl rfl
theorem wp_md_reads_d46 : decode prog_13_method_26_code 46 = .ok (.iconst (-1), 1) := wt_op2 wb19m9_prog_13_method_26_code_c1 17 rfl rfl
theorem wp_md_reads_d47 : decode prog_13_method_26_code 47 = .ok (.if_icmp .eq 12, 3) := wt_op159 wb19m9_prog_13_method_26_code_c1 18 rfl rfl rfl
theorem wp_md_reads_d50 : decode prog_13_method_26_code 50 = .ok (.aload_n 0, 1) := wt_op42 wb19m9_prog_13_method_26_code_c1 21 rfl rfl
theorem wp_md_reads_d51 : decode prog_13_method_26_code 51 = .ok (.iconst 2, 1) := wt_op5 wb19m9_prog_13_method_26_code_c1 22 rfl rfl
theorem wp_md_reads_d52 : decode prog_13_method_26_code 52 = .ok (.iload_n 3, 1) := wt_op29 wb19m9_prog_13_method_26_code_c1 23 rfl rfl
theorem wp_md_reads_d53 : decode prog_13_method_26_code 53 = .ok (.invokevirtual 180, 3) := wt_op182 wb19m9_prog_13_method_26_code_c1 24 rfl rfl rfl
theorem wp_md_reads_d56 : decode prog_13_method_26_code 56 = .ok (.goto 36, 3) := wt_op167 wb19m9_prog_13_method_26_code_c1 27 rfl rfl rfl
theorem wp_md_reads_d59 : decode prog_13_method_26_code 59 = .ok (.iload_n 1, 1) := wt_op27 wb19m9_prog_13_method_26_code_c2 0 rfl rfl
theorem wp_md_reads_d60 : decode prog_13_method_26_code 60 = .ok (.iconst 5, 1) := wt_op8 wb19m9_prog_13_method_26_code_c2 1 rfl rfl
theorem wp_md_reads_d61 : decode prog_13_method_26_code 61 = .ok (.if_icmp .eq 25, 3) := wt_op159 wb19m9_prog_13_method_26_code_c2 2 rfl rfl rfl
theorem wp_md_reads_d64 : decode prog_13_method_26_code 64 = .ok (.aload_n 0, 1) := wt_op42 wb19m9_prog_13_method_26_code_c2 5 rfl rfl
theorem wp_md_reads_d65 : decode prog_13_method_26_code 65 = .ok (.getfield 246, 3) := wt_op180 wb19m9_prog_13_method_26_code_c2 6 rfl rfl rfl
theorem wp_md_reads_d68 : decode prog_13_method_26_code 68 = .ok (.bipush 60, 2) := wt_op16 wb19m9_prog_13_method_26_code_c2 9 rfl rfl rfl
theorem wp_md_reads_d70 : decode prog_13_method_26_code 70 = .ok (.if_icmp .eq 16, 3) := wt_op159 wb19m9_prog_13_method_26_code_c2 11 rfl rfl rfl
theorem wp_md_reads_d73 : decode prog_13_method_26_code 73 = .ok (.iload_n 1, 1) := wt_op27 wb19m9_prog_13_method_26_code_c2 14 rfl rfl
theorem wp_md_reads_d74 : decode prog_13_method_26_code 74 = .ok (.ifCond .ne 18, 3) := wt_op154 wb19m9_prog_13_method_26_code_c2 15 rfl rfl rfl
theorem wp_md_reads_d77 : decode prog_13_method_26_code 77 = .ok (.aload_n 0, 1) := wt_op42 wb19m9_prog_13_method_26_code_c2 18 rfl rfl
theorem wp_md_reads_d78 : decode prog_13_method_26_code 78 = .ok (.getfield 253, 3) := wt_op180 wb19m9_prog_13_method_26_code_c2 19 rfl rfl rfl
theorem wp_md_reads_d81 : decode prog_13_method_26_code 81 = .ok (.bipush 20, 2) := wt_op16 wb19m9_prog_13_method_26_code_c2 22 rfl rfl rfl
theorem wp_md_reads_d83 : decode prog_13_method_26_code 83 = .ok (.if_icmp .ne 9, 3) := wt_op160 wb19m9_prog_13_method_26_code_c2 24 rfl rfl rfl
theorem wp_md_reads_d86 : decode prog_13_method_26_code 86 = .ok (.aload_n 0, 1) := wt_op42 wb19m9_prog_13_method_26_code_c2 27 rfl rfl
theorem wp_md_reads_d87 : decode prog_13_method_26_code 87 = .ok (.iconst 3, 1) := wt_op6 wb19m9_prog_13_method_26_code_c3 0 rfl rfl
theorem wp_md_reads_d88 : decode prog_13_method_26_code 88 = .ok (.iload_n 3, 1) := wt_op29 wb19m9_prog_13_method_26_code_c3 1 rfl rfl
theorem wp_md_reads_d89 : decode prog_13_method_26_code 89 = .ok (.invokevirtual 180, 3) := wt_op182 wb19m9_prog_13_method_26_code_c3 2 rfl rfl rfl
theorem wp_md_reads_d92 : decode prog_13_method_26_code 92 = .ok (.aload_n 0, 1) := wt_op42 wb19m9_prog_13_method_26_code_c3 5 rfl rfl
theorem wp_md_reads_d93 : decode prog_13_method_26_code 93 = .ok (.getfield 167, 3) := wt_op180 wb19m9_prog_13_method_26_code_c3 6 rfl rfl rfl
theorem wp_md_reads_d96 : decode prog_13_method_26_code 96 = .ok (.ifCond .eq 4, 3) := wt_op153 wb19m9_prog_13_method_26_code_c3 9 rfl rfl rfl
theorem wp_md_reads_d99 : decode prog_13_method_26_code 99 = .ok (.return_, 1) := wt_op177 wb19m9_prog_13_method_26_code_c3 12 rfl rfl
theorem wp_md_reads_d100 : decode prog_13_method_26_code 100 = .ok (.aload_n 0, 1) := wt_op42 wb19m9_prog_13_method_26_code_c3 13 rfl rfl
theorem wp_md_reads_d101 : decode prog_13_method_26_code 101 = .ok (.getfield 62, 3) := wt_op180 wb19m9_prog_13_method_26_code_c3 14 rfl rfl rfl
theorem wp_md_reads_d104 : decode prog_13_method_26_code 104 = .ok (.aload_n 0, 1) := wt_op42 wb19m9_prog_13_method_26_code_c3 17 rfl rfl
theorem wp_md_reads_d105 : decode prog_13_method_26_code 105 = .ok (.getfield 246, 3) := wt_op180 wb19m9_prog_13_method_26_code_c3 18 rfl rfl rfl
theorem wp_md_reads_d108 : decode prog_13_method_26_code 108 = .ok (.iload_n 2, 1) := wt_op28 wb19m9_prog_13_method_26_code_c3 21 rfl rfl
theorem wp_md_reads_d109 : decode prog_13_method_26_code 109 = .ok (.iastore, 1) := wt_op79 wb19m9_prog_13_method_26_code_c3 22 rfl rfl
theorem wp_md_reads_d110 : decode prog_13_method_26_code 110 = .ok (.iconst 0, 1) := wt_op3 wb19m9_prog_13_method_26_code_c3 23 rfl rfl
theorem wp_md_reads_d111 : decode prog_13_method_26_code 111 = .ok (.istore 4, 2) := wt_op54 wb19m9_prog_13_method_26_code_c3 24 rfl rfl
theorem wp_md_reads_d113 : decode prog_13_method_26_code 113 = .ok (.iload 4, 2) := wt_op21 wb19m9_prog_13_method_26_code_c3 26 rfl rfl
theorem wp_md_reads_d115 : decode prog_13_method_26_code 115 = .ok (.iload_n 2, 1) := wt_op28 wb19m9_prog_13_method_26_code_c4 0 rfl rfl
theorem wp_md_reads_d116 : decode prog_13_method_26_code 116 = .ok (.if_icmp .ge 35, 3) := wt_op162 wb19m9_prog_13_method_26_code_c4 1 rfl rfl rfl
theorem wp_md_reads_d119 : decode prog_13_method_26_code 119 = .ok (.aload_n 0, 1) := wt_op42 wb19m9_prog_13_method_26_code_c4 4 rfl rfl
theorem wp_md_reads_d120 : decode prog_13_method_26_code 120 = .ok (.getfield 82, 3) := wt_op180 wb19m9_prog_13_method_26_code_c4 5 rfl rfl rfl
theorem wp_md_reads_d123 : decode prog_13_method_26_code 123 = .ok (.aload_n 0, 1) := wt_op42 wb19m9_prog_13_method_26_code_c4 8 rfl rfl
theorem wp_md_reads_d124 : decode prog_13_method_26_code 124 = .ok (.getfield 246, 3) := wt_op180 wb19m9_prog_13_method_26_code_c4 9 rfl rfl rfl
theorem wp_md_reads_d127 : decode prog_13_method_26_code 127 = .ok (.aaload, 1) := wt_op50 wb19m9_prog_13_method_26_code_c4 12 rfl rfl
theorem wp_md_reads_d128 : decode prog_13_method_26_code 128 = .ok (.iload 4, 2) := wt_op21 wb19m9_prog_13_method_26_code_c4 13 rfl rfl
theorem wp_md_reads_d130 : decode prog_13_method_26_code 130 = .ok (.aload_n 0, 1) := wt_op42 wb19m9_prog_13_method_26_code_c4 15 rfl rfl
theorem wp_md_reads_d131 : decode prog_13_method_26_code 131 = .ok (.aload_n 0, 1) := wt_op42 wb19m9_prog_13_method_26_code_c4 16 rfl rfl
theorem wp_md_reads_d132 : decode prog_13_method_26_code 132 = .ok (.getfield 160, 3) := wt_op180 wb19m9_prog_13_method_26_code_c4 17 rfl rfl rfl
theorem wp_md_reads_d135 : decode prog_13_method_26_code 135 = .ok (.iload 4, 2) := wt_op21 wb19m9_prog_13_method_26_code_c4 20 rfl rfl
theorem wp_md_reads_d137 : decode prog_13_method_26_code 137 = .ok (.iadd, 1) := wt_op96 wb19m9_prog_13_method_26_code_c4 22 rfl rfl
theorem wp_md_reads_d138 : decode prog_13_method_26_code 138 = .ok (.invokevirtual 163, 3) := wt_op182 wb19m9_prog_13_method_26_code_c4 23 rfl rfl rfl
theorem wp_md_reads_d141 : decode prog_13_method_26_code 141 = .ok (.bipush 97, 2) := wt_op16 wb19m9_prog_13_method_26_code_c4 26 rfl rfl rfl
theorem wp_md_reads_d143 : decode prog_13_method_26_code 143 = .ok (.isub, 1) := wt_op100 wb19m9_prog_13_method_26_code_c5 0 rfl rfl
theorem wp_md_reads_d144 : decode prog_13_method_26_code 144 = .ok (.iastore, 1) := wt_op79 wb19m9_prog_13_method_26_code_c5 1 rfl rfl
theorem wp_md_reads_d145 : decode prog_13_method_26_code 145 = .ok (.iinc 4 1, 3) := wt_op132 wb19m9_prog_13_method_26_code_c5 2 rfl rfl rfl
theorem wp_md_reads_d148 : decode prog_13_method_26_code 148 = .ok (.goto (-35), 3) := wt_op167 wb19m9_prog_13_method_26_code_c5 5 rfl rfl rfl
theorem wp_md_reads_d151 : decode prog_13_method_26_code 151 = .ok (.aload_n 0, 1) := wt_op42 wb19m9_prog_13_method_26_code_c5 8 rfl rfl
theorem wp_md_reads_d152 : decode prog_13_method_26_code 152 = .ok (.dup, 1) := wt_op89 wb19m9_prog_13_method_26_code_c5 9 rfl rfl
theorem wp_md_reads_d153 : decode prog_13_method_26_code 153 = .ok (.getfield 160, 3) := wt_op180 wb19m9_prog_13_method_26_code_c5 10 rfl rfl rfl
theorem wp_md_reads_d156 : decode prog_13_method_26_code 156 = .ok (.iload_n 2, 1) := wt_op28 wb19m9_prog_13_method_26_code_c5 13 rfl rfl
theorem wp_md_reads_d157 : decode prog_13_method_26_code 157 = .ok (.iadd, 1) := wt_op96 wb19m9_prog_13_method_26_code_c5 14 rfl rfl
theorem wp_md_reads_d158 : decode prog_13_method_26_code 158 = .ok (.putfield 160, 3) := wt_op181 wb19m9_prog_13_method_26_code_c5 15 rfl rfl rfl
theorem wp_md_reads_d161 : decode prog_13_method_26_code 161 = .ok (.aload_n 0, 1) := wt_op42 wb19m9_prog_13_method_26_code_c5 18 rfl rfl
theorem wp_md_reads_d162 : decode prog_13_method_26_code 162 = .ok (.getfield 68, 3) := wt_op180 wb19m9_prog_13_method_26_code_c5 19 rfl rfl rfl
theorem wp_md_reads_d165 : decode prog_13_method_26_code 165 = .ok (.aload_n 0, 1) := wt_op42 wb19m9_prog_13_method_26_code_c5 22 rfl rfl
theorem wp_md_reads_d166 : decode prog_13_method_26_code 166 = .ok (.getfield 246, 3) := wt_op180 wb19m9_prog_13_method_26_code_c5 23 rfl rfl rfl
theorem wp_md_reads_d169 : decode prog_13_method_26_code 169 = .ok (.iconst 0, 1) := wt_op3 wb19m9_prog_13_method_26_code_c5 26 rfl rfl
theorem wp_md_reads_d170 : decode prog_13_method_26_code 170 = .ok (.iastore, 1) := wt_op79 wb19m9_prog_13_method_26_code_c5 27 rfl rfl
theorem wp_md_reads_d171 : decode prog_13_method_26_code 171 = .ok (.aload_n 0, 1) := wt_op42 wb19m9_prog_13_method_26_code_c6 0 rfl rfl
theorem wp_md_reads_d172 : decode prog_13_method_26_code 172 = .ok (.invokevirtual 173, 3) := wt_op182 wb19m9_prog_13_method_26_code_c6 1 rfl rfl rfl
theorem wp_md_reads_d175 : decode prog_13_method_26_code 175 = .ok (.aload_n 0, 1) := wt_op42 wb19m9_prog_13_method_26_code_c6 4 rfl rfl
theorem wp_md_reads_d176 : decode prog_13_method_26_code 176 = .ok (.aload_n 0, 1) := wt_op42 wb19m9_prog_13_method_26_code_c6 5 rfl rfl
theorem wp_md_reads_d177 : decode prog_13_method_26_code 177 = .ok (.getfield 160, 3) := wt_op180 wb19m9_prog_13_method_26_code_c6 6 rfl rfl rfl
theorem wp_md_reads_d180 : decode prog_13_method_26_code 180 = .ok (.invokevirtual 163, 3) := wt_op182 wb19m9_prog_13_method_26_code_c6 9 rfl rfl rfl
theorem wp_md_reads_d183 : decode prog_13_method_26_code 183 = .ok (.bipush 47, 2) := wt_op16 wb19m9_prog_13_method_26_code_c6 12 rfl rfl rfl
theorem wp_md_reads_d185 : decode prog_13_method_26_code 185 = .ok (.if_icmp .ne 28, 3) := wt_op160 wb19m9_prog_13_method_26_code_c6 14 rfl rfl rfl
theorem wp_md_reads_d188 : decode prog_13_method_26_code 188 = .ok (.aload_n 0, 1) := wt_op42 wb19m9_prog_13_method_26_code_c6 17 rfl rfl
theorem wp_md_reads_d189 : decode prog_13_method_26_code 189 = .ok (.dup, 1) := wt_op89 wb19m9_prog_13_method_26_code_c6 18 rfl rfl
theorem wp_md_reads_d190 : decode prog_13_method_26_code 190 = .ok (.getfield 160, 3) := wt_op180 wb19m9_prog_13_method_26_code_c6 19 rfl rfl rfl
theorem wp_md_reads_d193 : decode prog_13_method_26_code 193 = .ok (.iconst 1, 1) := wt_op4 wb19m9_prog_13_method_26_code_c6 22 rfl rfl
theorem wp_md_reads_d194 : decode prog_13_method_26_code 194 = .ok (.iadd, 1) := wt_op96 wb19m9_prog_13_method_26_code_c6 23 rfl rfl
theorem wp_md_reads_d195 : decode prog_13_method_26_code 195 = .ok (.putfield 160, 3) := wt_op181 wb19m9_prog_13_method_26_code_c6 24 rfl rfl rfl
theorem wp_md_reads_d198 : decode prog_13_method_26_code 198 = .ok (.aload_n 0, 1) := wt_op42 wb19m9_prog_13_method_26_code_c6 27 rfl rfl
theorem wp_md_reads_d199 : decode prog_13_method_26_code 199 = .ok (.getfield 68, 3) := wt_op180 wb19m9_prog_13_method_26_code_c7 0 rfl rfl rfl
theorem wp_md_reads_d202 : decode prog_13_method_26_code 202 = .ok (.aload_n 0, 1) := wt_op42 wb19m9_prog_13_method_26_code_c7 3 rfl rfl
theorem wp_md_reads_d203 : decode prog_13_method_26_code 203 = .ok (.getfield 246, 3) := wt_op180 wb19m9_prog_13_method_26_code_c7 4 rfl rfl rfl
theorem wp_md_reads_d206 : decode prog_13_method_26_code 206 = .ok (.aload_n 0, 1) := wt_op42 wb19m9_prog_13_method_26_code_c7 7 rfl rfl
theorem wp_md_reads_d207 : decode prog_13_method_26_code 207 = .ok (.iconst 0, 1) := wt_op3 wb19m9_prog_13_method_26_code_c7 8 rfl rfl
theorem wp_md_reads_d208 : decode prog_13_method_26_code 208 = .ok (.iconst 3, 1) := wt_op6 wb19m9_prog_13_method_26_code_c7 9 rfl rfl
theorem wp_md_reads_d209 : decode prog_13_method_26_code 209 = .ok (.invokevirtual 219, 3) := wt_op182 wb19m9_prog_13_method_26_code_c7 10 rfl rfl rfl
theorem wp_md_reads_d212 : decode prog_13_method_26_code 212 = .ok (.iastore, 1) := wt_op79 wb19m9_prog_13_method_26_code_c7 13 rfl rfl
theorem wp_md_reads_d213 : decode prog_13_method_26_code 213 = .ok (.iload_n 1, 1) := wt_op27 wb19m9_prog_13_method_26_code_c7 14 rfl rfl
theorem wp_md_reads_d214 : decode prog_13_method_26_code 214 = .ok (.ifCond .ne 13, 3) := wt_op154 wb19m9_prog_13_method_26_code_c7 15 rfl rfl rfl
theorem wp_md_reads_d217 : decode prog_13_method_26_code 217 = .ok (.aload_n 0, 1) := wt_op42 wb19m9_prog_13_method_26_code_c7 18 rfl rfl
theorem wp_md_reads_d218 : decode prog_13_method_26_code 218 = .ok (.dup, 1) := wt_op89 wb19m9_prog_13_method_26_code_c7 19 rfl rfl
theorem wp_md_reads_d219 : decode prog_13_method_26_code 219 = .ok (.getfield 253, 3) := wt_op180 wb19m9_prog_13_method_26_code_c7 20 rfl rfl rfl
theorem wp_md_reads_d222 : decode prog_13_method_26_code 222 = .ok (.iconst 1, 1) := wt_op4 wb19m9_prog_13_method_26_code_c7 23 rfl rfl
theorem wp_md_reads_d223 : decode prog_13_method_26_code 223 = .ok (.iadd, 1) := wt_op96 wb19m9_prog_13_method_26_code_c7 24 rfl rfl
theorem wp_md_reads_d224 : decode prog_13_method_26_code 224 = .ok (.putfield 253, 3) := wt_op181 wb19m9_prog_13_method_26_code_c7 25 rfl rfl rfl
theorem wp_md_reads_d227 : decode prog_13_method_26_code 227 = .ok (.aload_n 0, 1) := wt_op42 wb19m9_prog_13_method_26_code_c8 0 rfl rfl
theorem wp_md_reads_d228 : decode prog_13_method_26_code 228 = .ok (.getfield 74, 3) := wt_op180 wb19m9_prog_13_method_26_code_c8 1 rfl rfl rfl
theorem wp_md_reads_d231 : decode prog_13_method_26_code 231 = .ok (.aload_n 0, 1) := wt_op42 wb19m9_prog_13_method_26_code_c8 4 rfl rfl
theorem wp_md_reads_d232 : decode prog_13_method_26_code 232 = .ok (.getfield 246, 3) := wt_op180 wb19m9_prog_13_method_26_code_c8 5 rfl rfl rfl
theorem wp_md_reads_d235 : decode prog_13_method_26_code 235 = .ok (.aload_n 0, 1) := wt_op42 wb19m9_prog_13_method_26_code_c8 8 rfl rfl
theorem wp_md_reads_d236 : decode prog_13_method_26_code 236 = .ok (.getfield 253, 3) := wt_op180 wb19m9_prog_13_method_26_code_c8 9 rfl rfl rfl
theorem wp_md_reads_d239 : decode prog_13_method_26_code 239 = .ok (.iconst 1, 1) := wt_op4 wb19m9_prog_13_method_26_code_c8 12 rfl rfl
theorem wp_md_reads_d240 : decode prog_13_method_26_code 240 = .ok (.isub, 1) := wt_op100 wb19m9_prog_13_method_26_code_c8 13 rfl rfl
theorem wp_md_reads_d241 : decode prog_13_method_26_code 241 = .ok (.iastore, 1) := wt_op79 wb19m9_prog_13_method_26_code_c8 14 rfl rfl
theorem wp_md_reads_d242 : decode prog_13_method_26_code 242 = .ok (.aload_n 0, 1) := wt_op42 wb19m9_prog_13_method_26_code_c8 15 rfl rfl
theorem wp_md_reads_d243 : decode prog_13_method_26_code 243 = .ok (.dup, 1) := wt_op89 wb19m9_prog_13_method_26_code_c8 16 rfl rfl
theorem wp_md_reads_d244 : decode prog_13_method_26_code 244 = .ok (.getfield 246, 3) := wt_op180 wb19m9_prog_13_method_26_code_c8 17 rfl rfl rfl
theorem wp_md_reads_d247 : decode prog_13_method_26_code 247 = .ok (.iconst 1, 1) := wt_op4 wb19m9_prog_13_method_26_code_c8 20 rfl rfl
theorem wp_md_reads_d248 : decode prog_13_method_26_code 248 = .ok (.iadd, 1) := wt_op96 wb19m9_prog_13_method_26_code_c8 21 rfl rfl
theorem wp_md_reads_d249 : decode prog_13_method_26_code 249 = .ok (.putfield 246, 3) := wt_op181 wb19m9_prog_13_method_26_code_c8 22 rfl rfl rfl
theorem wp_md_reads_d252 : decode prog_13_method_26_code 252 = .ok (.return_, 1) := wt_op177 wb19m9_prog_13_method_26_code_c8 25 rfl rfl
noncomputable def wp_md_reads_B227 (n : Nat) (σ : wt_St) : Option (wt_St) :=
  if (wt_gf σ 108 27) < 0 ∨ 61 ≤ Int32.toNatClampNeg (wt_gf σ 108 27) then none else
  some (wt_sf (wt_sa σ 129 (Int32.toNatClampNeg (wt_gf σ 108 27)) ((wt_gf σ 108 29) - (1 : Int32))) 108 27 ((wt_gf (wt_sa σ 129 (Int32.toNatClampNeg (wt_gf σ 108 27)) ((wt_gf σ 108 29) - (1 : Int32))) 108 27) + (1 : Int32)))
set_option maxRecDepth 100000 in
set_option maxHeartbeats 4000000 in
theorem wp_md_reads_B227_ok  {X : wt_X} {n : Nat} {res : wt_St} (hE : wt_Ok X prog_13_method_26_code 5 "WornTypeModel" 3 0) (hR : wt_Rt X none none res) (hD : ∀ i, 108 ≤ i → i < 321 → wt_dom (wt_xw X) i)  {σ : wt_St} (h : wp_md_reads_B227 n σ = some res) : wt_V X 0 σ 227 [some (.ref (wt_ad (wt_xw X) 108)), none, none, none, none] [] := by
  unfold wp_md_reads_B227 at h
  refine wt_aload_n hE wp_md_reads_d227 rfl ?_
  refine wt_getr hE (r := 129) wt_lf_md_74 (hD 108 (by decide) (by decide)) wt_L108 rfl wp_md_reads_d228 ?_
  refine wt_aload_n hE wp_md_reads_d231 rfl ?_
  refine wt_geti hE wt_lf_md_246 (hD 108 (by decide) (by decide)) wt_L108 rfl wp_md_reads_d232 ?_
  refine wt_aload_n hE wp_md_reads_d235 rfl ?_
  refine wt_geti hE wt_lf_md_253 (hD 108 (by decide) (by decide)) wt_L108 rfl wp_md_reads_d236 ?_
  refine wt_iconst hE (1 : Int32) wp_md_reads_d239 wt_ci_1 ?_
  refine wt_isub hE wp_md_reads_d240 ?_
  obtain ⟨g13, h⟩ := wt_gd h
  refine wt_iast hE (hD 129 (by decide) (by decide)) wt_L129 g13 wp_md_reads_d241 ?_
  refine wt_aload_n hE wp_md_reads_d242 rfl ?_
  refine wt_dup hE wp_md_reads_d243 rfl ?_
  refine wt_geti hE wt_lf_md_246 (hD 108 (by decide) (by decide)) wt_L108 rfl wp_md_reads_d244 ?_
  refine wt_iconst hE (1 : Int32) wp_md_reads_d247 wt_ci_1 ?_
  refine wt_iadd hE wp_md_reads_d248 ?_
  refine wt_puti hE wt_lf_md_246 (hD 108 (by decide) (by decide)) wt_L108 rfl (fun q hq => by cases hq; rfl) wp_md_reads_d249 ?_
  cases h
  exact wt_vret hE hR wp_md_reads_d252
noncomputable def wp_md_reads_B213 (n : Nat) (x1 : Int32) (σ : wt_St) : Option (wt_St) :=
  if x1 = 0 then
    wp_md_reads_B227 n (wt_sf σ 108 29 ((wt_gf σ 108 29) + (1 : Int32)))
  else
    wp_md_reads_B227 n σ
set_option maxRecDepth 100000 in
set_option maxHeartbeats 4000000 in
theorem wp_md_reads_B213_ok  {x1 : Int32} {X : wt_X} {n : Nat} {res : wt_St} (hE : wt_Ok X prog_13_method_26_code 5 "WornTypeModel" 3 0) (hR : wt_Rt X none none res) (hD : ∀ i, 108 ≤ i → i < 321 → wt_dom (wt_xw X) i)  {σ : wt_St} (h : wp_md_reads_B213 n x1 σ = some res) : wt_V X 0 σ 213 [some (.ref (wt_ad (wt_xw X) 108)), some (.int x1), none, none, none] [] := by
  unfold wp_md_reads_B213 at h
  refine wt_iload_n hE wp_md_reads_d213 rfl ?_
  refine wt_if_ne hE 227 wp_md_reads_d214 rfl (fun c12 => ?_) (fun c12 => ?_)
  · have h := wt_in c12 h
    refine wt_wk [true, false, true, true, true] rfl ?_
    exact wp_md_reads_B227_ok hE hR hD h
  · have h := wt_ip c12 h
    refine wt_aload_n hE wp_md_reads_d217 rfl ?_
    refine wt_dup hE wp_md_reads_d218 rfl ?_
    refine wt_geti hE wt_lf_md_253 (hD 108 (by decide) (by decide)) wt_L108 rfl wp_md_reads_d219 ?_
    refine wt_iconst hE (1 : Int32) wp_md_reads_d222 wt_ci_1 ?_
    refine wt_iadd hE wp_md_reads_d223 ?_
    refine wt_puti hE wt_lf_md_253 (hD 108 (by decide) (by decide)) wt_L108 rfl (fun q hq => by cases hq; rfl) wp_md_reads_d224 ?_
    refine wt_wk [true, false, true, true, true] rfl ?_
    exact wp_md_reads_B227_ok hE hR hD h
noncomputable def wp_md_reads_B113 (n : Nat) (x1 : Int32) (x2 : Int32) (K113 : Int32 × wt_St → Option (wt_St)) (s : Int32 × wt_St) : Option (wt_St) :=
  if x2 ≤ s.1 then
    if (wt_gf (wt_sf s.2 108 4 ((wt_gf s.2 108 4) + x2)) 108 27) < 0 ∨ 60 ≤ Int32.toNatClampNeg (wt_gf (wt_sf s.2 108 4 ((wt_gf s.2 108 4) + x2)) 108 27) then none else
    (wp_md_blanks n (wt_sa (wt_sf s.2 108 4 ((wt_gf s.2 108 4) + x2)) 127 (Int32.toNatClampNeg (wt_gf (wt_sf s.2 108 4 ((wt_gf s.2 108 4) + x2)) 108 27)) (0 : Int32))).bind fun q9 =>
    (wp_md_byteAt n (wt_gf q9 108 4) q9).bind fun q10 =>
    if q10.1 = (47 : Int32) then
      (wp_md_number n (0 : Int32) (3 : Int32) (wt_sf q10.2 108 4 ((wt_gf q10.2 108 4) + (1 : Int32)))).bind fun q14 =>
      if (wt_gf (wt_sf q10.2 108 4 ((wt_gf q10.2 108 4) + (1 : Int32))) 108 27) < 0 ∨ 60 ≤ Int32.toNatClampNeg (wt_gf (wt_sf q10.2 108 4 ((wt_gf q10.2 108 4) + (1 : Int32))) 108 27) then none else
      wp_md_reads_B213 n x1 (wt_sa q14.2 127 (Int32.toNatClampNeg (wt_gf (wt_sf q10.2 108 4 ((wt_gf q10.2 108 4) + (1 : Int32))) 108 27)) q14.1)
    else
      wp_md_reads_B213 n x1 q10.2
  else
    if (wt_gf s.2 108 27) < 0 ∨ 60 ≤ Int32.toNatClampNeg (wt_gf s.2 108 27) then none else
    (wp_md_byteAt n ((wt_gf s.2 108 4) + s.1) s.2).bind fun q17 =>
    if s.1 < 0 ∨ 9 ≤ Int32.toNatClampNeg s.1 then none else
    K113 ((s.1 + (1 : Int32)), (wt_sa q17.2 (132 + Int32.toNatClampNeg (wt_gf s.2 108 27)) (Int32.toNatClampNeg s.1) (q17.1 - (97 : Int32))))
set_option maxRecDepth 100000 in
set_option maxHeartbeats 4000000 in
theorem wp_md_reads_B113_ok  {x1 : Int32} {x2 : Int32} {X : wt_X} {n : Nat} {res : wt_St} (hE : wt_Ok X prog_13_method_26_code 5 "WornTypeModel" 3 0) (hR : wt_Rt X none none res) (hD : ∀ i, 108 ≤ i → i < 321 → wt_dom (wt_xw X) i)  {K113 : Int32 × wt_St → Option (wt_St)} (hK113 : ∀ s : Int32 × wt_St, K113 s = some res → wt_V X 0 s.2 113 [some (.ref (wt_ad (wt_xw X) 108)), some (.int x1), some (.int x2), none, some (.int s.1)] []) {s : Int32 × wt_St} (h : wp_md_reads_B113 n x1 x2 K113 s = some res) : wt_V X 0 s.2 113 [some (.ref (wt_ad (wt_xw X) 108)), some (.int x1), some (.int x2), none, some (.int s.1)] [] := by
  unfold wp_md_reads_B113 at h
  refine wt_iload hE wp_md_reads_d113 rfl ?_
  refine wt_iload_n hE wp_md_reads_d115 rfl ?_
  refine wt_icmp_ge hE 151 wp_md_reads_d116 rfl (fun c7 => ?_) (fun c7 => ?_)
  · have h := wt_ip c7 h
    refine wt_aload_n hE wp_md_reads_d151 rfl ?_
    refine wt_dup hE wp_md_reads_d152 rfl ?_
    refine wt_geti hE wt_lf_md_160 (hD 108 (by decide) (by decide)) wt_L108 rfl wp_md_reads_d153 ?_
    refine wt_iload_n hE wp_md_reads_d156 rfl ?_
    refine wt_iadd hE wp_md_reads_d157 ?_
    refine wt_puti hE wt_lf_md_160 (hD 108 (by decide) (by decide)) wt_L108 rfl (fun q hq => by cases hq; rfl) wp_md_reads_d158 ?_
    refine wt_aload_n hE wp_md_reads_d161 rfl ?_
    refine wt_getr hE (r := 127) wt_lf_md_68 (hD 108 (by decide) (by decide)) wt_L108 rfl wp_md_reads_d162 ?_
    refine wt_aload_n hE wp_md_reads_d165 rfl ?_
    refine wt_geti hE wt_lf_md_246 (hD 108 (by decide) (by decide)) wt_L108 rfl wp_md_reads_d166 ?_
    refine wt_iconst hE (0 : Int32) wp_md_reads_d169 wt_ci_0 ?_
    obtain ⟨g8, h⟩ := wt_gd h
    refine wt_iast hE (hD 127 (by decide) (by decide)) wt_L127 g8 wp_md_reads_d170 ?_
    refine wt_aload_n hE wp_md_reads_d171 rfl ?_
    obtain ⟨q9, hq9, h⟩ := wt_bi h
    refine wt_callVv hE [] wt_lm_md_173 wt_ya_md_blanks (wp_md_blanks_ok hD hq9) (by omega) (hD 108 (by decide) (by decide)) wt_L108 rfl rfl rfl (Nat.le_of_ble_eq_true rfl) (Nat.zero_le _) wp_md_reads_d172 ?_
    refine wt_aload_n hE wp_md_reads_d175 rfl ?_
    refine wt_aload_n hE wp_md_reads_d176 rfl ?_
    refine wt_geti hE wt_lf_md_160 (hD 108 (by decide) (by decide)) wt_L108 rfl wp_md_reads_d177 ?_
    obtain ⟨q10, hq10, h⟩ := wt_bi h
    refine wt_callVi hE [.int (wt_gf q9 108 4)] wt_lm_md_163 wt_ya_md_byteAt (wp_md_byteAt_ok hD hq10) (by omega) (hD 108 (by decide) (by decide)) wt_L108 rfl rfl rfl (Nat.le_of_ble_eq_true rfl) (Nat.zero_le _) wp_md_reads_d180 (fun hbq10 => ?_)
    refine wt_bipush hE (47 : Int32) wp_md_reads_d183 wt_cb_47 ?_
    refine wt_icmp_ne hE 213 wp_md_reads_d185 rfl (fun c11 => ?_) (fun c11 => ?_)
    · have h := wt_in c11 h
      refine wt_wk [true, true, false, true, false] rfl ?_
      exact wp_md_reads_B213_ok hE hR hD h
    · have h := wt_ip c11 h
      refine wt_aload_n hE wp_md_reads_d188 rfl ?_
      refine wt_dup hE wp_md_reads_d189 rfl ?_
      refine wt_geti hE wt_lf_md_160 (hD 108 (by decide) (by decide)) wt_L108 rfl wp_md_reads_d190 ?_
      refine wt_iconst hE (1 : Int32) wp_md_reads_d193 wt_ci_1 ?_
      refine wt_iadd hE wp_md_reads_d194 ?_
      refine wt_puti hE wt_lf_md_160 (hD 108 (by decide) (by decide)) wt_L108 rfl (fun q hq => by cases hq; rfl) wp_md_reads_d195 ?_
      refine wt_aload_n hE wp_md_reads_d198 rfl ?_
      refine wt_getr hE (r := 127) wt_lf_md_68 (hD 108 (by decide) (by decide)) wt_L108 rfl wp_md_reads_d199 ?_
      refine wt_aload_n hE wp_md_reads_d202 rfl ?_
      refine wt_geti hE wt_lf_md_246 (hD 108 (by decide) (by decide)) wt_L108 rfl wp_md_reads_d203 ?_
      refine wt_aload_n hE wp_md_reads_d206 rfl ?_
      refine wt_iconst hE (0 : Int32) wp_md_reads_d207 wt_ci_0 ?_
      refine wt_iconst hE (3 : Int32) wp_md_reads_d208 wt_ci_3 ?_
      obtain ⟨q14, hq14, h⟩ := wt_bi h
      refine wt_callVi hE [.int (0 : Int32), .int (3 : Int32)] wt_lm_md_219 wt_ya_md_number (wp_md_number_ok hD hq14) (by omega) (hD 108 (by decide) (by decide)) wt_L108 rfl rfl rfl (Nat.le_of_ble_eq_true rfl) (Nat.zero_le _) wp_md_reads_d209 (fun hbq14 => ?_)
      obtain ⟨g15, h⟩ := wt_gd h
      refine wt_iast hE (hD 127 (by decide) (by decide)) wt_L127 g15 wp_md_reads_d212 ?_
      refine wt_wk [true, true, false, true, false] rfl ?_
      exact wp_md_reads_B213_ok hE hR hD h
  · have h := wt_in c7 h
    refine wt_aload_n hE wp_md_reads_d119 rfl ?_
    refine wt_getr hE (r := 131) wt_lf_md_82 (hD 108 (by decide) (by decide)) wt_L108 rfl wp_md_reads_d120 ?_
    refine wt_aload_n hE wp_md_reads_d123 rfl ?_
    refine wt_geti hE wt_lf_md_246 (hD 108 (by decide) (by decide)) wt_L108 rfl wp_md_reads_d124 ?_
    obtain ⟨g16, h⟩ := wt_gd h
    have lg16 := wt_lt g16
    refine wt_aald1 hE (hD 131 (by decide) (by decide)) wt_L131 g16 wp_md_reads_d127 ?_
    refine wt_iload hE wp_md_reads_d128 rfl ?_
    refine wt_aload_n hE wp_md_reads_d130 rfl ?_
    refine wt_aload_n hE wp_md_reads_d131 rfl ?_
    refine wt_geti hE wt_lf_md_160 (hD 108 (by decide) (by decide)) wt_L108 rfl wp_md_reads_d132 ?_
    refine wt_iload hE wp_md_reads_d135 rfl ?_
    refine wt_iadd hE wp_md_reads_d137 ?_
    obtain ⟨q17, hq17, h⟩ := wt_bi h
    refine wt_callVi hE [.int ((wt_gf s.2 108 4) + s.1)] wt_lm_md_163 wt_ya_md_byteAt (wp_md_byteAt_ok hD hq17) (by omega) (hD 108 (by decide) (by decide)) wt_L108 rfl rfl rfl (Nat.le_of_ble_eq_true rfl) (Nat.zero_le _) wp_md_reads_d138 (fun hbq17 => ?_)
    refine wt_bipush hE (97 : Int32) wp_md_reads_d141 wt_cb_97 ?_
    refine wt_isub hE wp_md_reads_d143 ?_
    obtain ⟨g18, h⟩ := wt_gd h
    refine wt_iast hE (hD _ (by omega) (by omega)) (wt_G132 _ lg16) g18 wp_md_reads_d144 ?_
    refine wt_iinc hE (s.1 + (1 : Int32)) [some (.ref (wt_ad (wt_xw X) 108)), some (.int x1), some (.int x2), none, some (.int (s.1 + (1 : Int32)))] wp_md_reads_d145 (by decide) rfl rfl rfl ?_
    refine wt_goto hE 113 wp_md_reads_d148 rfl ?_
    exact hK113 ((s.1 + (1 : Int32)), (wt_sa q17.2 (132 + Int32.toNatClampNeg (wt_gf s.2 108 27)) (Int32.toNatClampNeg s.1) (q17.1 - (97 : Int32)))) h
noncomputable def wp_md_reads_B92 (n : Nat) (x1 : Int32) (x2 : Int32) (σ : wt_St) : Option (wt_St) :=
  if (wt_gf σ 108 5) = 0 then
    if (wt_gf σ 108 27) < 0 ∨ 60 ≤ Int32.toNatClampNeg (wt_gf σ 108 27) then none else
    wt_it (wp_md_reads_B113 n x1 x2) n ((0 : Int32), (wt_sa σ 125 (Int32.toNatClampNeg (wt_gf σ 108 27)) x2))
  else
    some σ
set_option maxRecDepth 100000 in
set_option maxHeartbeats 4000000 in
theorem wp_md_reads_B92_ok  {x1 : Int32} {x2 : Int32} {X : wt_X} {n : Nat} {res : wt_St} (hE : wt_Ok X prog_13_method_26_code 5 "WornTypeModel" 3 0) (hR : wt_Rt X none none res) (hD : ∀ i, 108 ≤ i → i < 321 → wt_dom (wt_xw X) i)  {σ : wt_St} (h : wp_md_reads_B92 n x1 x2 σ = some res) : wt_V X 0 σ 92 [some (.ref (wt_ad (wt_xw X) 108)), some (.int x1), some (.int x2), none, none] [] := by
  unfold wp_md_reads_B92 at h
  refine wt_aload_n hE wp_md_reads_d92 rfl ?_
  refine wt_geti hE wt_lf_md_167 (hD 108 (by decide) (by decide)) wt_L108 rfl wp_md_reads_d93 ?_
  refine wt_if_eq hE 100 wp_md_reads_d96 rfl (fun c5 => ?_) (fun c5 => ?_)
  · have h := wt_ip c5 h
    refine wt_aload_n hE wp_md_reads_d100 rfl ?_
    refine wt_getr hE (r := 125) wt_lf_md_62 (hD 108 (by decide) (by decide)) wt_L108 rfl wp_md_reads_d101 ?_
    refine wt_aload_n hE wp_md_reads_d104 rfl ?_
    refine wt_geti hE wt_lf_md_246 (hD 108 (by decide) (by decide)) wt_L108 rfl wp_md_reads_d105 ?_
    refine wt_iload_n hE wp_md_reads_d108 rfl ?_
    obtain ⟨g6, h⟩ := wt_gd h
    refine wt_iast hE (hD 125 (by decide) (by decide)) wt_L125 g6 wp_md_reads_d109 ?_
    refine wt_iconst hE (0 : Int32) wp_md_reads_d110 wt_ci_0 ?_
    refine wt_istore hE [some (.ref (wt_ad (wt_xw X) 108)), some (.int x1), some (.int x2), none, some (.int (0 : Int32))] wp_md_reads_d111 (Nat.le_of_ble_eq_true rfl) rfl ?_
    exact wt_it_ind (fun z => wt_V X 0 z.2 113 [some (.ref (wt_ad (wt_xw X) 108)), some (.int x1), some (.int x2), none, some (.int z.1)] []) (fun K hK z h => wp_md_reads_B113_ok hE hR hD hK h) n ((0 : Int32), (wt_sa σ 125 (Int32.toNatClampNeg (wt_gf σ 108 27)) x2)) h
  · have h := wt_in c5 h
    cases h
    exact wt_vret hE hR wp_md_reads_d99
noncomputable def wp_md_reads_B50 (n : Nat) (x1 : Int32) (x2 : Int32) (x3 : Int32) (σ : wt_St) : Option (wt_St) :=
  (wp_md_wrong n (2 : Int32) x3 σ).bind fun q4 =>
  wp_md_reads_B92 n x1 x2 q4
set_option maxRecDepth 100000 in
set_option maxHeartbeats 4000000 in
theorem wp_md_reads_B50_ok  {x1 : Int32} {x2 : Int32} {x3 : Int32} {X : wt_X} {n : Nat} {res : wt_St} (hE : wt_Ok X prog_13_method_26_code 5 "WornTypeModel" 3 0) (hR : wt_Rt X none none res) (hD : ∀ i, 108 ≤ i → i < 321 → wt_dom (wt_xw X) i)  {σ : wt_St} (h : wp_md_reads_B50 n x1 x2 x3 σ = some res) : wt_V X 0 σ 50 [some (.ref (wt_ad (wt_xw X) 108)), some (.int x1), some (.int x2), some (.int x3), none] [] := by
  unfold wp_md_reads_B50 at h
  refine wt_aload_n hE wp_md_reads_d50 rfl ?_
  refine wt_iconst hE (2 : Int32) wp_md_reads_d51 wt_ci_2 ?_
  refine wt_iload_n hE wp_md_reads_d52 rfl ?_
  obtain ⟨q4, hq4, h⟩ := wt_bi h
  refine wt_callVv hE [.int (2 : Int32), .int x3] wt_lm_md_180 wt_ya_md_wrong (wp_md_wrong_ok hD hq4) (by omega) (hD 108 (by decide) (by decide)) wt_L108 rfl rfl rfl (Nat.le_of_ble_eq_true rfl) (Nat.zero_le _) wp_md_reads_d53 ?_
  refine wt_goto hE 92 wp_md_reads_d56 rfl ?_
  refine wt_wk [true, true, true, false, true] rfl ?_
  exact wp_md_reads_B92_ok hE hR hD h
noncomputable def wp_md_reads_B86 (n : Nat) (x1 : Int32) (x2 : Int32) (x3 : Int32) (σ : wt_St) : Option (wt_St) :=
  (wp_md_wrong n (3 : Int32) x3 σ).bind fun q22 =>
  wp_md_reads_B92 n x1 x2 q22
set_option maxRecDepth 100000 in
set_option maxHeartbeats 4000000 in
theorem wp_md_reads_B86_ok  {x1 : Int32} {x2 : Int32} {x3 : Int32} {X : wt_X} {n : Nat} {res : wt_St} (hE : wt_Ok X prog_13_method_26_code 5 "WornTypeModel" 3 0) (hR : wt_Rt X none none res) (hD : ∀ i, 108 ≤ i → i < 321 → wt_dom (wt_xw X) i)  {σ : wt_St} (h : wp_md_reads_B86 n x1 x2 x3 σ = some res) : wt_V X 0 σ 86 [some (.ref (wt_ad (wt_xw X) 108)), some (.int x1), some (.int x2), some (.int x3), none] [] := by
  unfold wp_md_reads_B86 at h
  refine wt_aload_n hE wp_md_reads_d86 rfl ?_
  refine wt_iconst hE (3 : Int32) wp_md_reads_d87 wt_ci_3 ?_
  refine wt_iload_n hE wp_md_reads_d88 rfl ?_
  obtain ⟨q22, hq22, h⟩ := wt_bi h
  refine wt_callVv hE [.int (3 : Int32), .int x3] wt_lm_md_180 wt_ya_md_wrong (wp_md_wrong_ok hD hq22) (by omega) (hD 108 (by decide) (by decide)) wt_L108 rfl rfl rfl (Nat.le_of_ble_eq_true rfl) (Nat.zero_le _) wp_md_reads_d89 ?_
  refine wt_wk [true, true, true, false, true] rfl ?_
  exact wp_md_reads_B92_ok hE hR hD h
noncomputable def wp_md_reads (n : Nat) (x1 : Int32) (σ : wt_St) : Option (wt_St) :=
  (wp_md_lettersHere n σ).bind fun q1 =>
  if q1.1 = 0 then
    (wp_md_wrong n (1 : Int32) (wt_gf q1.2 108 4) q1.2).bind fun q26 =>
    wp_md_reads_B92 n x1 q1.1 q26
  else
    if (9 : Int32) < q1.1 then
      wp_md_reads_B50 n x1 q1.1 (wt_gf q1.2 108 4) q1.2
    else
      (wp_md_wordOf_131 n 125 q1.1 (wt_gf q1.2 108 27) q1.2).bind fun q19 =>
      if q19.1 = (-1 : Int32) then
        if x1 = (5 : Int32) then
          wp_md_reads_B86 n x1 q1.1 (wt_gf q1.2 108 4) q19.2
        else
          if (wt_gf q19.2 108 27) = (60 : Int32) then
            wp_md_reads_B86 n x1 q1.1 (wt_gf q1.2 108 4) q19.2
          else
            if x1 = 0 then
              if (wt_gf q19.2 108 29) = (20 : Int32) then
                wp_md_reads_B86 n x1 q1.1 (wt_gf q1.2 108 4) q19.2
              else
                wp_md_reads_B92 n x1 q1.1 q19.2
            else
              wp_md_reads_B92 n x1 q1.1 q19.2
      else
        wp_md_reads_B50 n x1 q1.1 (wt_gf q1.2 108 4) q19.2
set_option maxRecDepth 100000 in
set_option maxHeartbeats 4000000 in
theorem wp_md_reads_ok {l : Launch} {w : wt_E} {n : Nat} {x1 : Int32} (hD : ∀ i, 108 ≤ i → i < 321 → wt_dom w i) {σ : wt_St} {q : wt_St} (h : wp_md_reads n x1 σ = some q) : wt_Ctr l w wt_y_md_reads prog_13_method_26_code 5 none 3 [.ref (wt_ad w 108), .int x1] σ none q := by
  refine wt_ctr wt_pl_md_reads rfl (Nat.le_of_ble_eq_true rfl) [some (.ref (wt_ad w 108)), some (.int x1), none, none, none] rfl ?_
  intro X hXl hXw hE hR
  subst hXl
  subst hXw
  have hE : wt_Ok X prog_13_method_26_code 5 "WornTypeModel" 3 0 := hE
  unfold wp_md_reads at h
  refine wt_aload_n hE wp_md_reads_d0 rfl ?_
  obtain ⟨q1, hq1, h⟩ := wt_bi h
  refine wt_callVi hE [] wt_lm_md_192 wt_ya_md_lettersHere (wp_md_lettersHere_ok hD hq1) (by omega) (hD 108 (by decide) (by decide)) wt_L108 rfl rfl rfl (Nat.le_of_ble_eq_true rfl) (Nat.zero_le _) wp_md_reads_d1 (fun hbq1 => ?_)
  refine wt_istore_n hE [some (.ref (wt_ad (wt_xw X) 108)), some (.int x1), some (.int q1.1), none, none] wp_md_reads_d4 (by decide) rfl ?_
  refine wt_aload_n hE wp_md_reads_d5 rfl ?_
  refine wt_geti hE wt_lf_md_160 (hD 108 (by decide) (by decide)) wt_L108 rfl wp_md_reads_d6 ?_
  refine wt_istore_n hE [some (.ref (wt_ad (wt_xw X) 108)), some (.int x1), some (.int q1.1), some (.int (wt_gf q1.2 108 4)), none] wp_md_reads_d9 (by decide) rfl ?_
  refine wt_iload_n hE wp_md_reads_d10 rfl ?_
  refine wt_if_ne hE 23 wp_md_reads_d11 rfl (fun c2 => ?_) (fun c2 => ?_)
  · have h := wt_in c2 h
    refine wt_iload_n hE wp_md_reads_d23 rfl ?_
    refine wt_bipush hE (9 : Int32) wp_md_reads_d24 wt_cb_9 ?_
    refine wt_icmp_gt hE 50 wp_md_reads_d26 rfl (fun c3 => ?_) (fun c3 => ?_)
    · have h := wt_ip c3 h
      exact wp_md_reads_B50_ok hE hR hD h
    · have h := wt_in c3 h
      refine wt_aload_n hE wp_md_reads_d29 rfl ?_
      refine wt_iload_n hE wp_md_reads_d30 rfl ?_
      refine wt_aload_n hE wp_md_reads_d31 rfl ?_
      refine wt_getr hE (r := 131) wt_lf_md_82 (hD 108 (by decide) (by decide)) wt_L108 rfl wp_md_reads_d32 ?_
      refine wt_aload_n hE wp_md_reads_d35 rfl ?_
      refine wt_getr hE (r := 125) wt_lf_md_62 (hD 108 (by decide) (by decide)) wt_L108 rfl wp_md_reads_d36 ?_
      refine wt_aload_n hE wp_md_reads_d39 rfl ?_
      refine wt_geti hE wt_lf_md_246 (hD 108 (by decide) (by decide)) wt_L108 rfl wp_md_reads_d40 ?_
      obtain ⟨q19, hq19, h⟩ := wt_bi h
      refine wt_callVi hE [.int q1.1, .ref (wt_ad (wt_xw X) 131), .ref (wt_ad (wt_xw X) 125), .int (wt_gf q1.2 108 27)] wt_lm_md_249 wt_ya_md_wordOf (wp_md_wordOf_131_ok hD (wt_lnE wt_L125) (hD 125 (by decide) (by decide)) hq19) (by omega) (hD 108 (by decide) (by decide)) wt_L108 rfl rfl rfl (Nat.le_of_ble_eq_true rfl) (Nat.zero_le _) wp_md_reads_d43 (fun hbq19 => ?_)
      refine wt_iconst hE (-1 : Int32) wp_md_reads_d46 wt_ci_m1 ?_
      refine wt_icmp_eq hE 59 wp_md_reads_d47 rfl (fun c20 => ?_) (fun c20 => ?_)
      · have h := wt_ip c20 h
        refine wt_iload_n hE wp_md_reads_d59 rfl ?_
        refine wt_iconst hE (5 : Int32) wp_md_reads_d60 wt_ci_5 ?_
        refine wt_icmp_eq hE 86 wp_md_reads_d61 rfl (fun c21 => ?_) (fun c21 => ?_)
        · have h := wt_ip c21 h
          exact wp_md_reads_B86_ok hE hR hD h
        · have h := wt_in c21 h
          refine wt_aload_n hE wp_md_reads_d64 rfl ?_
          refine wt_geti hE wt_lf_md_246 (hD 108 (by decide) (by decide)) wt_L108 rfl wp_md_reads_d65 ?_
          refine wt_bipush hE (60 : Int32) wp_md_reads_d68 wt_cb_60 ?_
          refine wt_icmp_eq hE 86 wp_md_reads_d70 rfl (fun c23 => ?_) (fun c23 => ?_)
          · have h := wt_ip c23 h
            exact wp_md_reads_B86_ok hE hR hD h
          · have h := wt_in c23 h
            refine wt_iload_n hE wp_md_reads_d73 rfl ?_
            refine wt_if_ne hE 92 wp_md_reads_d74 rfl (fun c24 => ?_) (fun c24 => ?_)
            · have h := wt_in c24 h
              refine wt_wk [true, true, true, false, true] rfl ?_
              exact wp_md_reads_B92_ok hE hR hD h
            · have h := wt_ip c24 h
              refine wt_aload_n hE wp_md_reads_d77 rfl ?_
              refine wt_geti hE wt_lf_md_253 (hD 108 (by decide) (by decide)) wt_L108 rfl wp_md_reads_d78 ?_
              refine wt_bipush hE (20 : Int32) wp_md_reads_d81 wt_cb_20 ?_
              refine wt_icmp_ne hE 92 wp_md_reads_d83 rfl (fun c25 => ?_) (fun c25 => ?_)
              · have h := wt_in c25 h
                refine wt_wk [true, true, true, false, true] rfl ?_
                exact wp_md_reads_B92_ok hE hR hD h
              · have h := wt_ip c25 h
                exact wp_md_reads_B86_ok hE hR hD h
      · have h := wt_in c20 h
        exact wp_md_reads_B50_ok hE hR hD h
  · have h := wt_ip c2 h
    refine wt_aload_n hE wp_md_reads_d14 rfl ?_
    refine wt_iconst hE (1 : Int32) wp_md_reads_d15 wt_ci_1 ?_
    refine wt_iload_n hE wp_md_reads_d16 rfl ?_
    obtain ⟨q26, hq26, h⟩ := wt_bi h
    refine wt_callVv hE [.int (1 : Int32), .int (wt_gf q1.2 108 4)] wt_lm_md_180 wt_ya_md_wrong (wp_md_wrong_ok hD hq26) (by omega) (hD 108 (by decide) (by decide)) wt_L108 rfl rfl rfl (Nat.le_of_ble_eq_true rfl) (Nat.zero_le _) wp_md_reads_d17 ?_
    refine wt_goto hE 92 wp_md_reads_d20 rfl ?_
    refine wt_wk [true, true, true, false, true] rfl ?_
    exact wp_md_reads_B92_ok hE hR hD h
def wb19m9_prog_13_method_95_code_r1 : List (List Nat) := [42, 180, 0, 240, 50, 4, 182, 1, 138, 42, 180, 0, 240, 172] :: []
def wb19m9_prog_13_method_95_code_r0 : List (List Nat) := [42, 3, 181, 0, 151, 42, 180, 0, 240, 154, 0, 5, 2, 172, 42, 89, 180, 0, 240, 4, 100, 181, 0, 240, 42, 42, 180, 0, 109] :: wb19m9_prog_13_method_95_code_r1
set_option maxRecDepth 100000 in
theorem wb19m9_prog_13_method_95_code_c0 : wt_cs prog_13_method_95_code 0 wb19m9_prog_13_method_95_code_r0 := wt_cs_of (by decide +kernel)
theorem wb19m9_prog_13_method_95_code_c1 : wt_cs prog_13_method_95_code 29 wb19m9_prog_13_method_95_code_r1 := wt_cs_tl (m := 29) wb19m9_prog_13_method_95_code_c0 rfl rfl
theorem wp_md_restore_d0 : decode prog_13_method_95_code 0 = .ok (.aload_n 0, 1) := wt_op42 wb19m9_prog_13_method_95_code_c0 0 rfl rfl
theorem wp_md_restore_d1 : decode prog_13_method_95_code 1 = .ok (.iconst 0, 1) := wt_op3 wb19m9_prog_13_method_95_code_c0 1 rfl rfl
theorem wp_md_restore_d2 : decode prog_13_method_95_code 2 = .ok (.putfield 151, 3) := wt_op181 wb19m9_prog_13_method_95_code_c0 2 rfl rfl rfl
theorem wp_md_restore_d5 : decode prog_13_method_95_code 5 = .ok (.aload_n 0, 1) := wt_op42 wb19m9_prog_13_method_95_code_c0 5 rfl rfl
theorem wp_md_restore_d6 : decode prog_13_method_95_code 6 = .ok (.getfield 240, 3) := wt_op180 wb19m9_prog_13_method_95_code_c0 6 rfl rfl rfl
theorem wp_md_restore_d9 : decode prog_13_method_95_code 9 = .ok (.ifCond .ne 5, 3) := wt_op154 wb19m9_prog_13_method_95_code_c0 9 rfl rfl rfl
theorem wp_md_restore_d12 : decode prog_13_method_95_code 12 = .ok (.iconst (-1), 1) := wt_op2 wb19m9_prog_13_method_95_code_c0 12 rfl rfl
theorem wp_md_restore_d13 : decode prog_13_method_95_code 13 = .ok (.ireturn, 1) := wt_op172 wb19m9_prog_13_method_95_code_c0 13 rfl rfl
theorem wp_md_restore_d14 : decode prog_13_method_95_code 14 = .ok (.aload_n 0, 1) := wt_op42 wb19m9_prog_13_method_95_code_c0 14 rfl rfl
theorem wp_md_restore_d15 : decode prog_13_method_95_code 15 = .ok (.dup, 1) := wt_op89 wb19m9_prog_13_method_95_code_c0 15 rfl rfl
theorem wp_md_restore_d16 : decode prog_13_method_95_code 16 = .ok (.getfield 240, 3) := wt_op180 wb19m9_prog_13_method_95_code_c0 16 rfl rfl rfl
theorem wp_md_restore_d19 : decode prog_13_method_95_code 19 = .ok (.iconst 1, 1) := wt_op4 wb19m9_prog_13_method_95_code_c0 19 rfl rfl
theorem wp_md_restore_d20 : decode prog_13_method_95_code 20 = .ok (.isub, 1) := wt_op100 wb19m9_prog_13_method_95_code_c0 20 rfl rfl
theorem wp_md_restore_d21 : decode prog_13_method_95_code 21 = .ok (.putfield 240, 3) := wt_op181 wb19m9_prog_13_method_95_code_c0 21 rfl rfl rfl
theorem wp_md_restore_d24 : decode prog_13_method_95_code 24 = .ok (.aload_n 0, 1) := wt_op42 wb19m9_prog_13_method_95_code_c0 24 rfl rfl
theorem wp_md_restore_d25 : decode prog_13_method_95_code 25 = .ok (.aload_n 0, 1) := wt_op42 wb19m9_prog_13_method_95_code_c0 25 rfl rfl
theorem wp_md_restore_d26 : decode prog_13_method_95_code 26 = .ok (.getfield 109, 3) := wt_op180 wb19m9_prog_13_method_95_code_c0 26 rfl rfl rfl
theorem wp_md_restore_d29 : decode prog_13_method_95_code 29 = .ok (.aload_n 0, 1) := wt_op42 wb19m9_prog_13_method_95_code_c1 0 rfl rfl
theorem wp_md_restore_d30 : decode prog_13_method_95_code 30 = .ok (.getfield 240, 3) := wt_op180 wb19m9_prog_13_method_95_code_c1 1 rfl rfl rfl
theorem wp_md_restore_d33 : decode prog_13_method_95_code 33 = .ok (.aaload, 1) := wt_op50 wb19m9_prog_13_method_95_code_c1 4 rfl rfl
theorem wp_md_restore_d34 : decode prog_13_method_95_code 34 = .ok (.iconst 1, 1) := wt_op4 wb19m9_prog_13_method_95_code_c1 5 rfl rfl
theorem wp_md_restore_d35 : decode prog_13_method_95_code 35 = .ok (.invokevirtual 394, 3) := wt_op182 wb19m9_prog_13_method_95_code_c1 6 rfl rfl rfl
theorem wp_md_restore_d38 : decode prog_13_method_95_code 38 = .ok (.aload_n 0, 1) := wt_op42 wb19m9_prog_13_method_95_code_c1 9 rfl rfl
theorem wp_md_restore_d39 : decode prog_13_method_95_code 39 = .ok (.getfield 240, 3) := wt_op180 wb19m9_prog_13_method_95_code_c1 10 rfl rfl rfl
theorem wp_md_restore_d42 : decode prog_13_method_95_code 42 = .ok (.ireturn, 1) := wt_op172 wb19m9_prog_13_method_95_code_c1 13 rfl rfl
noncomputable def wp_md_restore (n : Nat) (σ : wt_St) : Option (Int32 × wt_St) :=
  if (wt_gf (wt_sf σ 108 0 (0 : Int32)) 108 41) = 0 then
    some ((-1 : Int32), (wt_sf σ 108 0 (0 : Int32)))
  else
    if (wt_gf (wt_sf (wt_sf σ 108 0 (0 : Int32)) 108 41 ((wt_gf (wt_sf σ 108 0 (0 : Int32)) 108 41) - (1 : Int32))) 108 41) < 0 ∨ 3 ≤ Int32.toNatClampNeg (wt_gf (wt_sf (wt_sf σ 108 0 (0 : Int32)) 108 41 ((wt_gf (wt_sf σ 108 0 (0 : Int32)) 108 41) - (1 : Int32))) 108 41) then none else
    (wp_md_movesAll n (283 + Int32.toNatClampNeg (wt_gf (wt_sf (wt_sf σ 108 0 (0 : Int32)) 108 41 ((wt_gf (wt_sf σ 108 0 (0 : Int32)) 108 41) - (1 : Int32))) 108 41)) (1 : Int32) (wt_sf (wt_sf σ 108 0 (0 : Int32)) 108 41 ((wt_gf (wt_sf σ 108 0 (0 : Int32)) 108 41) - (1 : Int32)))).bind fun q3 =>
    some ((wt_gf q3 108 41), q3)
set_option maxRecDepth 100000 in
set_option maxHeartbeats 4000000 in
theorem wp_md_restore_ok {l : Launch} {w : wt_E} {n : Nat} (hD : ∀ i, 108 ≤ i → i < 321 → wt_dom w i) {σ : wt_St} {q : Int32 × wt_St} (h : wp_md_restore n σ = some q) : wt_Ctr l w wt_y_md_restore prog_13_method_95_code 1 (some .int) 2 [.ref (wt_ad w 108)] σ (some q.1) q.2 := by
  refine wt_ctr wt_pl_md_restore rfl (Nat.le_of_ble_eq_true rfl) [some (.ref (wt_ad w 108))] rfl ?_
  intro X hXl hXw hE hR
  subst hXl
  subst hXw
  have hE : wt_Ok X prog_13_method_95_code 1 "WornTypeModel" 2 0 := hE
  unfold wp_md_restore at h
  refine wt_aload_n hE wp_md_restore_d0 rfl ?_
  refine wt_iconst hE (0 : Int32) wp_md_restore_d1 wt_ci_0 ?_
  refine wt_puti hE wt_lf_md_151 (hD 108 (by decide) (by decide)) wt_L108 rfl (fun q hq => by cases hq; rfl) wp_md_restore_d2 ?_
  refine wt_aload_n hE wp_md_restore_d5 rfl ?_
  refine wt_geti hE wt_lf_md_240 (hD 108 (by decide) (by decide)) wt_L108 rfl wp_md_restore_d6 ?_
  refine wt_if_ne hE 14 wp_md_restore_d9 rfl (fun c1 => ?_) (fun c1 => ?_)
  · have h := wt_in c1 h
    refine wt_aload_n hE wp_md_restore_d14 rfl ?_
    refine wt_dup hE wp_md_restore_d15 rfl ?_
    refine wt_geti hE wt_lf_md_240 (hD 108 (by decide) (by decide)) wt_L108 rfl wp_md_restore_d16 ?_
    refine wt_iconst hE (1 : Int32) wp_md_restore_d19 wt_ci_1 ?_
    refine wt_isub hE wp_md_restore_d20 ?_
    refine wt_puti hE wt_lf_md_240 (hD 108 (by decide) (by decide)) wt_L108 rfl (fun q hq => by cases hq; rfl) wp_md_restore_d21 ?_
    refine wt_aload_n hE wp_md_restore_d24 rfl ?_
    refine wt_aload_n hE wp_md_restore_d25 rfl ?_
    refine wt_getr hE (r := 282) wt_lf_md_109 (hD 108 (by decide) (by decide)) wt_L108 rfl wp_md_restore_d26 ?_
    refine wt_aload_n hE wp_md_restore_d29 rfl ?_
    refine wt_geti hE wt_lf_md_240 (hD 108 (by decide) (by decide)) wt_L108 rfl wp_md_restore_d30 ?_
    obtain ⟨g2, h⟩ := wt_gd h
    have lg2 := wt_lt g2
    refine wt_aald1 hE (hD 282 (by decide) (by decide)) wt_L282 g2 wp_md_restore_d33 ?_
    refine wt_iconst hE (1 : Int32) wp_md_restore_d34 wt_ci_1 ?_
    obtain ⟨q3, hq3, h⟩ := wt_bi h
    refine wt_callVv hE [.ref (wt_ad (wt_xw X) ((283 + Int32.toNatClampNeg (wt_gf (wt_sf (wt_sf σ 108 0 (0 : Int32)) 108 41 ((wt_gf (wt_sf σ 108 0 (0 : Int32)) 108 41) - (1 : Int32))) 108 41)))), .int (1 : Int32)] wt_lm_md_394 wt_ya_md_movesAll (wp_md_movesAll_ok hD (wt_lnE (wt_G283 _ lg2)) (hD _ (by omega) (by omega)) hq3) (by omega) (hD 108 (by decide) (by decide)) wt_L108 rfl rfl rfl (Nat.le_of_ble_eq_true rfl) (Nat.zero_le _) wp_md_restore_d35 ?_
    refine wt_aload_n hE wp_md_restore_d38 rfl ?_
    refine wt_geti hE wt_lf_md_240 (hD 108 (by decide) (by decide)) wt_L108 rfl wp_md_restore_d39 ?_
    cases h
    exact wt_iret hE hR wp_md_restore_d42
  · have h := wt_ip c1 h
    refine wt_iconst hE (-1 : Int32) wp_md_restore_d12 wt_ci_m1 ?_
    cases h
    exact wt_iret hE hR wp_md_restore_d13
def wb19m9_prog_13_method_84_code_r2 : List (List Nat) := [182, 1, 48, 62, 42, 182, 1, 110, 29, 172] :: []
def wb19m9_prog_13_method_84_code_r1 : List (List Nat) := [184, 1, 122, 154, 0, 7, 4, 167, 0, 4, 3, 5, 182, 0, 230, 153, 0, 5, 3, 172, 42, 28, 182, 1, 116, 87, 42, 27] :: wb19m9_prog_13_method_84_code_r2
def wb19m9_prog_13_method_84_code_r0 : List (List Nat) := [42, 3, 181, 0, 151, 42, 42, 27, 182, 1, 42, 154, 0, 7, 4, 167, 0, 4, 3, 4, 182, 0, 230, 154, 0, 23, 42, 28] :: wb19m9_prog_13_method_84_code_r1
set_option maxRecDepth 100000 in
theorem wb19m9_prog_13_method_84_code_c0 : wt_cs prog_13_method_84_code 0 wb19m9_prog_13_method_84_code_r0 := wt_cs_of (by decide +kernel)
theorem wb19m9_prog_13_method_84_code_c1 : wt_cs prog_13_method_84_code 28 wb19m9_prog_13_method_84_code_r1 := wt_cs_tl (m := 28) wb19m9_prog_13_method_84_code_c0 rfl rfl
theorem wb19m9_prog_13_method_84_code_c2 : wt_cs prog_13_method_84_code 56 wb19m9_prog_13_method_84_code_r2 := wt_cs_tl (m := 28) wb19m9_prog_13_method_84_code_c1 rfl rfl
theorem wp_md_said_d0 : decode prog_13_method_84_code 0 = .ok (.aload_n 0, 1) := wt_op42 wb19m9_prog_13_method_84_code_c0 0 rfl rfl
theorem wp_md_said_d1 : decode prog_13_method_84_code 1 = .ok (.iconst 0, 1) := wt_op3 wb19m9_prog_13_method_84_code_c0 1 rfl rfl
theorem wp_md_said_d2 : decode prog_13_method_84_code 2 = .ok (.putfield 151, 3) := wt_op181 wb19m9_prog_13_method_84_code_c0 2 rfl rfl rfl
theorem wp_md_said_d5 : decode prog_13_method_84_code 5 = .ok (.aload_n 0, 1) := wt_op42 wb19m9_prog_13_method_84_code_c0 5 rfl rfl
theorem wp_md_said_d6 : decode prog_13_method_84_code 6 = .ok (.aload_n 0, 1) := wt_op42 wb19m9_prog_13_method_84_code_c0 6 rfl rfl
theorem wp_md_said_d7 : decode prog_13_method_84_code 7 = .ok (.iload_n 1, 1) := wt_op27 wb19m9_prog_13_method_84_code_c0 7 rfl rfl
theorem wp_md_said_d8 : decode prog_13_method_84_code 8 = .ok (.invokevirtual 298, 3) := wt_op182 wb19m9_prog_13_method_84_code_c0 8 rfl rfl rfl
theorem wp_md_said_d11 : decode prog_13_method_84_code 11 = .ok (.ifCond .ne 7, 3) := wt_op154 wb19m9_prog_13_method_84_code_c0 11 rfl rfl rfl
theorem wp_md_said_d14 : decode prog_13_method_84_code 14 = .ok (.iconst 1, 1) := wt_op4 wb19m9_prog_13_method_84_code_c0 14 rfl rfl
theorem wp_md_said_d15 : decode prog_13_method_84_code 15 = .ok (.goto 4, 3) := wt_op167 wb19m9_prog_13_method_84_code_c0 15 rfl rfl rfl
theorem wp_md_said_d18 : decode prog_13_method_84_code 18 = .ok (.iconst 0, 1) := wt_op3 wb19m9_prog_13_method_84_code_c0 18 rfl rfl
theorem wp_md_said_d19 : decode prog_13_method_84_code 19 = .ok (.iconst 1, 1) := wt_op4 wb19m9_prog_13_method_84_code_c0 19 rfl rfl
theorem wp_md_said_d20 : decode prog_13_method_84_code 20 = .ok (.invokevirtual 230, 3) := wt_op182 wb19m9_prog_13_method_84_code_c0 20 rfl rfl rfl
theorem wp_md_said_d23 : decode prog_13_method_84_code 23 = .ok (.ifCond .ne 23, 3) := wt_op154 wb19m9_prog_13_method_84_code_c0 23 rfl rfl rfl
theorem wp_md_said_d26 : decode prog_13_method_84_code 26 = .ok (.aload_n 0, 1) := wt_op42 wb19m9_prog_13_method_84_code_c0 26 rfl rfl
theorem wp_md_said_d27 : decode prog_13_method_84_code 27 = .ok (.iload_n 2, 1) := wt_op28 wb19m9_prog_13_method_84_code_c0 27 rfl rfl
theorem wp_md_said_d28 : decode prog_13_method_84_code 28 = .ok (.invokestatic 378, 3) := wt_op184 wb19m9_prog_13_method_84_code_c1 0 rfl rfl rfl
theorem wp_md_said_d31 : decode prog_13_method_84_code 31 = .ok (.ifCond .ne 7, 3) := wt_op154 wb19m9_prog_13_method_84_code_c1 3 rfl rfl rfl
theorem wp_md_said_d34 : decode prog_13_method_84_code 34 = .ok (.iconst 1, 1) := wt_op4 wb19m9_prog_13_method_84_code_c1 6 rfl rfl
theorem wp_md_said_d35 : decode prog_13_method_84_code 35 = .ok (.goto 4, 3) := wt_op167 wb19m9_prog_13_method_84_code_c1 7 rfl rfl rfl
theorem wp_md_said_d38 : decode prog_13_method_84_code 38 = .ok (.iconst 0, 1) := wt_op3 wb19m9_prog_13_method_84_code_c1 10 rfl rfl
theorem wp_md_said_d39 : decode prog_13_method_84_code 39 = .ok (.iconst 2, 1) := wt_op5 wb19m9_prog_13_method_84_code_c1 11 rfl rfl
theorem wp_md_said_d40 : decode prog_13_method_84_code 40 = .ok (.invokevirtual 230, 3) := wt_op182 wb19m9_prog_13_method_84_code_c1 12 rfl rfl rfl
theorem wp_md_said_d43 : decode prog_13_method_84_code 43 = .ok (.ifCond .eq 5, 3) := wt_op153 wb19m9_prog_13_method_84_code_c1 15 rfl rfl rfl
theorem wp_md_said_d46 : decode prog_13_method_84_code 46 = .ok (.iconst 0, 1) := wt_op3 wb19m9_prog_13_method_84_code_c1 18 rfl rfl
theorem wp_md_said_d47 : decode prog_13_method_84_code 47 = .ok (.ireturn, 1) := wt_op172 wb19m9_prog_13_method_84_code_c1 19 rfl rfl
theorem wp_md_said_d48 : decode prog_13_method_84_code 48 = .ok (.aload_n 0, 1) := wt_op42 wb19m9_prog_13_method_84_code_c1 20 rfl rfl
theorem wp_md_said_d49 : decode prog_13_method_84_code 49 = .ok (.iload_n 2, 1) := wt_op28 wb19m9_prog_13_method_84_code_c1 21 rfl rfl
theorem wp_md_said_d50 : decode prog_13_method_84_code 50 = .ok (.invokevirtual 372, 3) := wt_op182 wb19m9_prog_13_method_84_code_c1 22 rfl rfl rfl
theorem wp_md_said_d53 : decode prog_13_method_84_code 53 = .ok (.pop, 1) := wt_op87 wb19m9_prog_13_method_84_code_c1 25 rfl rfl
theorem wp_md_said_d54 : decode prog_13_method_84_code 54 = .ok (.aload_n 0, 1) := wt_op42 wb19m9_prog_13_method_84_code_c1 26 rfl rfl
theorem wp_md_said_d55 : decode prog_13_method_84_code 55 = .ok (.iload_n 1, 1) := wt_op27 wb19m9_prog_13_method_84_code_c1 27 rfl rfl
theorem wp_md_said_d56 : decode prog_13_method_84_code 56 = .ok (.invokevirtual 304, 3) := wt_op182 wb19m9_prog_13_method_84_code_c2 0 rfl rfl rfl
theorem wp_md_said_d59 : decode prog_13_method_84_code 59 = .ok (.istore_n 3, 1) := wt_op62 wb19m9_prog_13_method_84_code_c2 3 rfl rfl
theorem wp_md_said_d60 : decode prog_13_method_84_code 60 = .ok (.aload_n 0, 1) := wt_op42 wb19m9_prog_13_method_84_code_c2 4 rfl rfl
theorem wp_md_said_d61 : decode prog_13_method_84_code 61 = .ok (.invokevirtual 366, 3) := wt_op182 wb19m9_prog_13_method_84_code_c2 5 rfl rfl rfl
theorem wp_md_said_d64 : decode prog_13_method_84_code 64 = .ok (.iload_n 3, 1) := wt_op29 wb19m9_prog_13_method_84_code_c2 8 rfl rfl
theorem wp_md_said_d65 : decode prog_13_method_84_code 65 = .ok (.ireturn, 1) := wt_op172 wb19m9_prog_13_method_84_code_c2 9 rfl rfl
noncomputable def wp_md_said_B39 (n : Nat) (x1 : Int32) (x2 : Int32) (y1 : Int32) (σ : wt_St) : Option (Int32 × wt_St) :=
  (wp_md_bad n y1 (2 : Int32) σ).bind fun q7 =>
  if q7.1 = 0 then
    (wp_md_greedyAhead n x2 q7.2).bind fun q9 =>
    (wp_md_canWord n x1 q9.2).bind fun q10 =>
    (wp_md_putsBack n q10.2).bind fun q11 =>
    some (q10.1, q11)
  else
    some ((0 : Int32), q7.2)
set_option maxRecDepth 100000 in
set_option maxHeartbeats 4000000 in
theorem wp_md_said_B39_ok  {x1 : Int32} {x2 : Int32} {X : wt_X} {n : Nat} {res : Int32 × wt_St} (hE : wt_Ok X prog_13_method_84_code 4 "WornTypeModel" 7 0) (hR : wt_Rt X (some .int) (some res.1) res.2) (hD : ∀ i, 108 ≤ i → i < 321 → wt_dom (wt_xw X) i)  {σ : wt_St} {y1 : Int32} (h : wp_md_said_B39 n x1 x2 y1 σ = some res) : wt_V X 0 σ 39 [some (.ref (wt_ad (wt_xw X) 108)), some (.int x1), some (.int x2), none] [.int y1, .ref (wt_ad (wt_xw X) 108)] := by
  unfold wp_md_said_B39 at h
  refine wt_iconst hE (2 : Int32) wp_md_said_d39 wt_ci_2 ?_
  obtain ⟨q7, hq7, h⟩ := wt_bi h
  refine wt_callVi hE [.int y1, .int (2 : Int32)] wt_lm_md_230 wt_ya_md_bad (wp_md_bad_ok hD hq7) (by omega) (hD 108 (by decide) (by decide)) wt_L108 rfl rfl rfl (Nat.le_of_ble_eq_true rfl) (Nat.zero_le _) wp_md_said_d40 (fun hbq7 => ?_)
  refine wt_if_eq hE 48 wp_md_said_d43 rfl (fun c8 => ?_) (fun c8 => ?_)
  · have h := wt_ip c8 h
    refine wt_aload_n hE wp_md_said_d48 rfl ?_
    refine wt_iload_n hE wp_md_said_d49 rfl ?_
    obtain ⟨q9, hq9, h⟩ := wt_bi h
    refine wt_callVi hE [.int x2] wt_lm_md_372 wt_ya_md_greedyAhead (wp_md_greedyAhead_ok hD hq9) (by omega) (hD 108 (by decide) (by decide)) wt_L108 rfl rfl rfl (Nat.le_of_ble_eq_true rfl) (Nat.zero_le _) wp_md_said_d50 (fun hbq9 => ?_)
    refine wt_pop hE wp_md_said_d53 rfl ?_
    refine wt_aload_n hE wp_md_said_d54 rfl ?_
    refine wt_iload_n hE wp_md_said_d55 rfl ?_
    obtain ⟨q10, hq10, h⟩ := wt_bi h
    refine wt_callVi hE [.int x1] wt_lm_md_304 wt_ya_md_canWord (wp_md_canWord_ok hD hq10) (by omega) (hD 108 (by decide) (by decide)) wt_L108 rfl rfl rfl (Nat.le_of_ble_eq_true rfl) (Nat.zero_le _) wp_md_said_d56 (fun hbq10 => ?_)
    refine wt_istore_n hE [some (.ref (wt_ad (wt_xw X) 108)), some (.int x1), some (.int x2), some (.int q10.1)] wp_md_said_d59 (by decide) rfl ?_
    refine wt_aload_n hE wp_md_said_d60 rfl ?_
    obtain ⟨q11, hq11, h⟩ := wt_bi h
    refine wt_callVv hE [] wt_lm_md_366 wt_ya_md_putsBack (wp_md_putsBack_ok hD hq11) (by omega) (hD 108 (by decide) (by decide)) wt_L108 rfl rfl rfl (Nat.le_of_ble_eq_true rfl) (Nat.zero_le _) wp_md_said_d61 ?_
    refine wt_iload_n hE wp_md_said_d64 rfl ?_
    cases h
    exact wt_iret hE hR wp_md_said_d65
  · have h := wt_in c8 h
    refine wt_iconst hE (0 : Int32) wp_md_said_d46 wt_ci_0 ?_
    cases h
    exact wt_iret hE hR wp_md_said_d47
noncomputable def wp_md_said_B19 (n : Nat) (x1 : Int32) (x2 : Int32) (y1 : Int32) (σ : wt_St) : Option (Int32 × wt_St) :=
  (wp_md_bad n y1 (1 : Int32) σ).bind fun q3 =>
  if q3.1 = 0 then
    (wp_md_isWeek n x2 q3.2).bind fun q5 =>
    if q5.1 = 0 then
      wp_md_said_B39 n x1 x2 (1 : Int32) q5.2
    else
      wp_md_said_B39 n x1 x2 (0 : Int32) q5.2
  else
    some ((0 : Int32), q3.2)
set_option maxRecDepth 100000 in
set_option maxHeartbeats 4000000 in
theorem wp_md_said_B19_ok  {x1 : Int32} {x2 : Int32} {X : wt_X} {n : Nat} {res : Int32 × wt_St} (hE : wt_Ok X prog_13_method_84_code 4 "WornTypeModel" 7 0) (hR : wt_Rt X (some .int) (some res.1) res.2) (hD : ∀ i, 108 ≤ i → i < 321 → wt_dom (wt_xw X) i)  {σ : wt_St} {y1 : Int32} (h : wp_md_said_B19 n x1 x2 y1 σ = some res) : wt_V X 0 σ 19 [some (.ref (wt_ad (wt_xw X) 108)), some (.int x1), some (.int x2), none] [.int y1, .ref (wt_ad (wt_xw X) 108)] := by
  unfold wp_md_said_B19 at h
  refine wt_iconst hE (1 : Int32) wp_md_said_d19 wt_ci_1 ?_
  obtain ⟨q3, hq3, h⟩ := wt_bi h
  refine wt_callVi hE [.int y1, .int (1 : Int32)] wt_lm_md_230 wt_ya_md_bad (wp_md_bad_ok hD hq3) (by omega) (hD 108 (by decide) (by decide)) wt_L108 rfl rfl rfl (Nat.le_of_ble_eq_true rfl) (Nat.zero_le _) wp_md_said_d20 (fun hbq3 => ?_)
  refine wt_if_ne hE 46 wp_md_said_d23 rfl (fun c4 => ?_) (fun c4 => ?_)
  · have h := wt_in c4 h
    refine wt_iconst hE (0 : Int32) wp_md_said_d46 wt_ci_0 ?_
    cases h
    exact wt_iret hE hR wp_md_said_d47
  · have h := wt_ip c4 h
    refine wt_aload_n hE wp_md_said_d26 rfl ?_
    refine wt_iload_n hE wp_md_said_d27 rfl ?_
    obtain ⟨q5, hq5, h⟩ := wt_bi h
    refine wt_callSi hE [.int x2] wt_lm_md_378 wt_ya_md_isWeek (wp_md_isWeek_ok hq5) (by omega) rfl rfl (Nat.le_of_ble_eq_true rfl) (Nat.zero_le _) wp_md_said_d28 (fun hbq5 => ?_)
    refine wt_if_ne hE 38 wp_md_said_d31 rfl (fun c6 => ?_) (fun c6 => ?_)
    · have h := wt_in c6 h
      refine wt_iconst hE (0 : Int32) wp_md_said_d38 wt_ci_0 ?_
      exact wp_md_said_B39_ok hE hR hD h
    · have h := wt_ip c6 h
      refine wt_iconst hE (1 : Int32) wp_md_said_d34 wt_ci_1 ?_
      refine wt_goto hE 39 wp_md_said_d35 rfl ?_
      exact wp_md_said_B39_ok hE hR hD h
noncomputable def wp_md_said (n : Nat) (x1 : Int32) (x2 : Int32) (σ : wt_St) : Option (Int32 × wt_St) :=
  (wp_md_isWordNumber n x1 (wt_sf σ 108 0 (0 : Int32))).bind fun q1 =>
  if q1.1 = 0 then
    wp_md_said_B19 n x1 x2 (1 : Int32) q1.2
  else
    wp_md_said_B19 n x1 x2 (0 : Int32) q1.2
set_option maxRecDepth 100000 in
set_option maxHeartbeats 4000000 in
theorem wp_md_said_ok {l : Launch} {w : wt_E} {n : Nat} {x1 : Int32} {x2 : Int32} (hD : ∀ i, 108 ≤ i → i < 321 → wt_dom w i) {σ : wt_St} {q : Int32 × wt_St} (h : wp_md_said n x1 x2 σ = some q) : wt_Ctr l w wt_y_md_said prog_13_method_84_code 4 (some .int) 7 [.ref (wt_ad w 108), .int x1, .int x2] σ (some q.1) q.2 := by
  refine wt_ctr wt_pl_md_said rfl (Nat.le_of_ble_eq_true rfl) [some (.ref (wt_ad w 108)), some (.int x1), some (.int x2), none] rfl ?_
  intro X hXl hXw hE hR
  subst hXl
  subst hXw
  have hE : wt_Ok X prog_13_method_84_code 4 "WornTypeModel" 7 0 := hE
  unfold wp_md_said at h
  refine wt_aload_n hE wp_md_said_d0 rfl ?_
  refine wt_iconst hE (0 : Int32) wp_md_said_d1 wt_ci_0 ?_
  refine wt_puti hE wt_lf_md_151 (hD 108 (by decide) (by decide)) wt_L108 rfl (fun q hq => by cases hq; rfl) wp_md_said_d2 ?_
  refine wt_aload_n hE wp_md_said_d5 rfl ?_
  refine wt_aload_n hE wp_md_said_d6 rfl ?_
  refine wt_iload_n hE wp_md_said_d7 rfl ?_
  obtain ⟨q1, hq1, h⟩ := wt_bi h
  refine wt_callVi hE [.int x1] wt_lm_md_298 wt_ya_md_isWordNumber (wp_md_isWordNumber_ok hD hq1) (by omega) (hD 108 (by decide) (by decide)) wt_L108 rfl rfl rfl (Nat.le_of_ble_eq_true rfl) (Nat.zero_le _) wp_md_said_d8 (fun hbq1 => ?_)
  refine wt_if_ne hE 18 wp_md_said_d11 rfl (fun c2 => ?_) (fun c2 => ?_)
  · have h := wt_in c2 h
    refine wt_iconst hE (0 : Int32) wp_md_said_d18 wt_ci_0 ?_
    exact wp_md_said_B19_ok hE hR hD h
  · have h := wt_ip c2 h
    refine wt_iconst hE (1 : Int32) wp_md_said_d14 wt_ci_1 ?_
    refine wt_goto hE 19 wp_md_said_d15 rfl ?_
    exact wp_md_said_B19_ok hE hR hD h
def wb19m9_prog_13_method_54_code_r5 : List (List Nat) := [21, 4, 46, 79, 132, 4, 1, 167, 255, 228, 29, 172] :: []
def wb19m9_prog_13_method_54_code_r4 : List (List Nat) := [29, 42, 180, 1, 60, 79, 3, 54, 4, 21, 4, 42, 180, 1, 60, 162, 0, 25, 42, 180, 0, 106, 29, 50, 21, 4, 42, 180, 0, 118] :: wb19m9_prog_13_method_54_code_r5
def wb19m9_prog_13_method_54_code_r3 : List (List Nat) := [167, 255, 238, 29, 7, 160, 0, 6, 16, 254, 172, 42, 28, 29, 182, 1, 66, 87, 42, 180, 0, 100, 29, 27, 79, 42, 180, 0, 103] :: wb19m9_prog_13_method_54_code_r4
def wb19m9_prog_13_method_54_code_r2 : List (List Nat) := [28, 182, 1, 36, 2, 159, 0, 5, 2, 172, 29, 7, 162, 0, 19, 42, 180, 0, 100, 29, 46, 2, 159, 0, 9, 132, 3, 1] :: wb19m9_prog_13_method_54_code_r3
def wb19m9_prog_13_method_54_code_r1 : List (List Nat) := [184, 1, 57, 154, 0, 7, 4, 167, 0, 4, 3, 5, 182, 0, 230, 153, 0, 5, 3, 172, 3, 62, 42, 27, 182, 1, 54, 42] :: wb19m9_prog_13_method_54_code_r2
def wb19m9_prog_13_method_54_code_r0 : List (List Nat) := [42, 3, 181, 0, 151, 42, 42, 27, 182, 1, 51, 154, 0, 7, 4, 167, 0, 4, 3, 4, 182, 0, 230, 154, 0, 23, 42, 28] :: wb19m9_prog_13_method_54_code_r1
set_option maxRecDepth 100000 in
theorem wb19m9_prog_13_method_54_code_c0 : wt_cs prog_13_method_54_code 0 wb19m9_prog_13_method_54_code_r0 := wt_cs_of (by decide +kernel)
theorem wb19m9_prog_13_method_54_code_c1 : wt_cs prog_13_method_54_code 28 wb19m9_prog_13_method_54_code_r1 := wt_cs_tl (m := 28) wb19m9_prog_13_method_54_code_c0 rfl rfl
theorem wb19m9_prog_13_method_54_code_c2 : wt_cs prog_13_method_54_code 56 wb19m9_prog_13_method_54_code_r2 := wt_cs_tl (m := 28) wb19m9_prog_13_method_54_code_c1 rfl rfl
theorem wb19m9_prog_13_method_54_code_c3 : wt_cs prog_13_method_54_code 84 wb19m9_prog_13_method_54_code_r3 := wt_cs_tl (m := 28) wb19m9_prog_13_method_54_code_c2 rfl rfl
theorem wb19m9_prog_13_method_54_code_c4 : wt_cs prog_13_method_54_code 113 wb19m9_prog_13_method_54_code_r4 := wt_cs_tl (m := 29) wb19m9_prog_13_method_54_code_c3 rfl rfl
theorem wb19m9_prog_13_method_54_code_c5 : wt_cs prog_13_method_54_code 143 wb19m9_prog_13_method_54_code_r5 := wt_cs_tl (m := 30) wb19m9_prog_13_method_54_code_c4 rfl rfl
theorem wp_md_set_d0 : decode prog_13_method_54_code 0 = .ok (.aload_n 0, 1) := wt_op42 wb19m9_prog_13_method_54_code_c0 0 rfl rfl
theorem wp_md_set_d1 : decode prog_13_method_54_code 1 = .ok (.iconst 0, 1) := wt_op3 wb19m9_prog_13_method_54_code_c0 1 rfl rfl
theorem wp_md_set_d2 : decode prog_13_method_54_code 2 = .ok (.putfield 151, 3) := wt_op181 wb19m9_prog_13_method_54_code_c0 2 rfl rfl rfl
theorem wp_md_set_d5 : decode prog_13_method_54_code 5 = .ok (.aload_n 0, 1) := wt_op42 wb19m9_prog_13_method_54_code_c0 5 rfl rfl
theorem wp_md_set_d6 : decode prog_13_method_54_code 6 = .ok (.aload_n 0, 1) := wt_op42 wb19m9_prog_13_method_54_code_c0 6 rfl rfl
theorem wp_md_set_d7 : decode prog_13_method_54_code 7 = .ok (.iload_n 1, 1) := wt_op27 wb19m9_prog_13_method_54_code_c0 7 rfl rfl
theorem wp_md_set_d8 : decode prog_13_method_54_code 8 = .ok (.invokevirtual 307, 3) := wt_op182 wb19m9_prog_13_method_54_code_c0 8 rfl rfl rfl
theorem wp_md_set_d11 : decode prog_13_method_54_code 11 = .ok (.ifCond .ne 7, 3) := wt_op154 wb19m9_prog_13_method_54_code_c0 11 rfl rfl rfl
theorem wp_md_set_d14 : decode prog_13_method_54_code 14 = .ok (.iconst 1, 1) := wt_op4 wb19m9_prog_13_method_54_code_c0 14 rfl rfl
theorem wp_md_set_d15 : decode prog_13_method_54_code 15 = .ok (.goto 4, 3) := wt_op167 wb19m9_prog_13_method_54_code_c0 15 rfl rfl rfl
theorem wp_md_set_d18 : decode prog_13_method_54_code 18 = .ok (.iconst 0, 1) := wt_op3 wb19m9_prog_13_method_54_code_c0 18 rfl rfl
theorem wp_md_set_d19 : decode prog_13_method_54_code 19 = .ok (.iconst 1, 1) := wt_op4 wb19m9_prog_13_method_54_code_c0 19 rfl rfl
theorem wp_md_set_d20 : decode prog_13_method_54_code 20 = .ok (.invokevirtual 230, 3) := wt_op182 wb19m9_prog_13_method_54_code_c0 20 rfl rfl rfl
theorem wp_md_set_d23 : decode prog_13_method_54_code 23 = .ok (.ifCond .ne 23, 3) := wt_op154 wb19m9_prog_13_method_54_code_c0 23 rfl rfl rfl
theorem wp_md_set_d26 : decode prog_13_method_54_code 26 = .ok (.aload_n 0, 1) := wt_op42 wb19m9_prog_13_method_54_code_c0 26 rfl rfl
theorem wp_md_set_d27 : decode prog_13_method_54_code 27 = .ok (.iload_n 2, 1) := wt_op28 wb19m9_prog_13_method_54_code_c0 27 rfl rfl
theorem wp_md_set_d28 : decode prog_13_method_54_code 28 = .ok (.invokestatic 313, 3) := wt_op184 wb19m9_prog_13_method_54_code_c1 0 rfl rfl rfl
theorem wp_md_set_d31 : decode prog_13_method_54_code 31 = .ok (.ifCond .ne 7, 3) := wt_op154 wb19m9_prog_13_method_54_code_c1 3 rfl rfl rfl
theorem wp_md_set_d34 : decode prog_13_method_54_code 34 = .ok (.iconst 1, 1) := wt_op4 wb19m9_prog_13_method_54_code_c1 6 rfl rfl
theorem wp_md_set_d35 : decode prog_13_method_54_code 35 = .ok (.goto 4, 3) := wt_op167 wb19m9_prog_13_method_54_code_c1 7 rfl rfl rfl
theorem wp_md_set_d38 : decode prog_13_method_54_code 38 = .ok (.iconst 0, 1) := wt_op3 wb19m9_prog_13_method_54_code_c1 10 rfl rfl
theorem wp_md_set_d39 : decode prog_13_method_54_code 39 = .ok (.iconst 2, 1) := wt_op5 wb19m9_prog_13_method_54_code_c1 11 rfl rfl
theorem wp_md_set_d40 : decode prog_13_method_54_code 40 = .ok (.invokevirtual 230, 3) := wt_op182 wb19m9_prog_13_method_54_code_c1 12 rfl rfl rfl
theorem wp_md_set_d43 : decode prog_13_method_54_code 43 = .ok (.ifCond .eq 5, 3) := wt_op153 wb19m9_prog_13_method_54_code_c1 15 rfl rfl rfl
theorem wp_md_set_d46 : decode prog_13_method_54_code 46 = .ok (.iconst 0, 1) := wt_op3 wb19m9_prog_13_method_54_code_c1 18 rfl rfl
theorem wp_md_set_d47 : decode prog_13_method_54_code 47 = .ok (.ireturn, 1) := wt_op172 wb19m9_prog_13_method_54_code_c1 19 rfl rfl
theorem wp_md_set_d48 : decode prog_13_method_54_code 48 = .ok (.iconst 0, 1) := wt_op3 wb19m9_prog_13_method_54_code_c1 20 rfl rfl
theorem wp_md_set_d49 : decode prog_13_method_54_code 49 = .ok (.istore_n 3, 1) := wt_op62 wb19m9_prog_13_method_54_code_c1 21 rfl rfl
theorem wp_md_set_d50 : decode prog_13_method_54_code 50 = .ok (.aload_n 0, 1) := wt_op42 wb19m9_prog_13_method_54_code_c1 22 rfl rfl
theorem wp_md_set_d51 : decode prog_13_method_54_code 51 = .ok (.iload_n 1, 1) := wt_op27 wb19m9_prog_13_method_54_code_c1 23 rfl rfl
theorem wp_md_set_d52 : decode prog_13_method_54_code 52 = .ok (.invokevirtual 310, 3) := wt_op182 wb19m9_prog_13_method_54_code_c1 24 rfl rfl rfl
theorem wp_md_set_d55 : decode prog_13_method_54_code 55 = .ok (.aload_n 0, 1) := wt_op42 wb19m9_prog_13_method_54_code_c1 27 rfl rfl
theorem wp_md_set_d56 : decode prog_13_method_54_code 56 = .ok (.iload_n 2, 1) := wt_op28 wb19m9_prog_13_method_54_code_c2 0 rfl rfl
theorem wp_md_set_d57 : decode prog_13_method_54_code 57 = .ok (.invokevirtual 292, 3) := wt_op182 wb19m9_prog_13_method_54_code_c2 1 rfl rfl rfl
theorem wp_md_set_d60 : decode prog_13_method_54_code 60 = .ok (.iconst (-1), 1) := wt_op2 wb19m9_prog_13_method_54_code_c2 4 rfl rfl
theorem wp_md_set_d61 : decode prog_13_method_54_code 61 = .ok (.if_icmp .eq 5, 3) := wt_op159 wb19m9_prog_13_method_54_code_c2 5 rfl rfl rfl
theorem wp_md_set_d64 : decode prog_13_method_54_code 64 = .ok (.iconst (-1), 1) := wt_op2 wb19m9_prog_13_method_54_code_c2 8 rfl rfl
theorem wp_md_set_d65 : decode prog_13_method_54_code 65 = .ok (.ireturn, 1) := wt_op172 wb19m9_prog_13_method_54_code_c2 9 rfl rfl
theorem wp_md_set_d66 : decode prog_13_method_54_code 66 = .ok (.iload_n 3, 1) := wt_op29 wb19m9_prog_13_method_54_code_c2 10 rfl rfl
theorem wp_md_set_d67 : decode prog_13_method_54_code 67 = .ok (.iconst 4, 1) := wt_op7 wb19m9_prog_13_method_54_code_c2 11 rfl rfl
theorem wp_md_set_d68 : decode prog_13_method_54_code 68 = .ok (.if_icmp .ge 19, 3) := wt_op162 wb19m9_prog_13_method_54_code_c2 12 rfl rfl rfl
theorem wp_md_set_d71 : decode prog_13_method_54_code 71 = .ok (.aload_n 0, 1) := wt_op42 wb19m9_prog_13_method_54_code_c2 15 rfl rfl
theorem wp_md_set_d72 : decode prog_13_method_54_code 72 = .ok (.getfield 100, 3) := wt_op180 wb19m9_prog_13_method_54_code_c2 16 rfl rfl rfl
theorem wp_md_set_d75 : decode prog_13_method_54_code 75 = .ok (.iload_n 3, 1) := wt_op29 wb19m9_prog_13_method_54_code_c2 19 rfl rfl
theorem wp_md_set_d76 : decode prog_13_method_54_code 76 = .ok (.iaload, 1) := wt_op46 wb19m9_prog_13_method_54_code_c2 20 rfl rfl
theorem wp_md_set_d77 : decode prog_13_method_54_code 77 = .ok (.iconst (-1), 1) := wt_op2 wb19m9_prog_13_method_54_code_c2 21 rfl rfl
theorem wp_md_set_d78 : decode prog_13_method_54_code 78 = .ok (.if_icmp .eq 9, 3) := wt_op159 wb19m9_prog_13_method_54_code_c2 22 rfl rfl rfl
theorem wp_md_set_d81 : decode prog_13_method_54_code 81 = .ok (.iinc 3 1, 3) := wt_op132 wb19m9_prog_13_method_54_code_c2 25 rfl rfl rfl
theorem wp_md_set_d84 : decode prog_13_method_54_code 84 = .ok (.goto (-18), 3) := wt_op167 wb19m9_prog_13_method_54_code_c3 0 rfl rfl rfl
theorem wp_md_set_d87 : decode prog_13_method_54_code 87 = .ok (.iload_n 3, 1) := wt_op29 wb19m9_prog_13_method_54_code_c3 3 rfl rfl
theorem wp_md_set_d88 : decode prog_13_method_54_code 88 = .ok (.iconst 4, 1) := wt_op7 wb19m9_prog_13_method_54_code_c3 4 rfl rfl
theorem wp_md_set_d89 : decode prog_13_method_54_code 89 = .ok (.if_icmp .ne 6, 3) := wt_op160 wb19m9_prog_13_method_54_code_c3 5 rfl rfl rfl
theorem wp_md_set_d92 : decode prog_13_method_54_code 92 = .ok (.bipush (-2), 2) := wt_op16 wb19m9_prog_13_method_54_code_c3 8 rfl rfl rfl
theorem wp_md_set_d94 : decode prog_13_method_54_code 94 = .ok (.ireturn, 1) := wt_op172 wb19m9_prog_13_method_54_code_c3 10 rfl rfl
theorem wp_md_set_d95 : decode prog_13_method_54_code 95 = .ok (.aload_n 0, 1) := wt_op42 wb19m9_prog_13_method_54_code_c3 11 rfl rfl
theorem wp_md_set_d96 : decode prog_13_method_54_code 96 = .ok (.iload_n 2, 1) := wt_op28 wb19m9_prog_13_method_54_code_c3 12 rfl rfl
theorem wp_md_set_d97 : decode prog_13_method_54_code 97 = .ok (.iload_n 3, 1) := wt_op29 wb19m9_prog_13_method_54_code_c3 13 rfl rfl
theorem wp_md_set_d98 : decode prog_13_method_54_code 98 = .ok (.invokevirtual 322, 3) := wt_op182 wb19m9_prog_13_method_54_code_c3 14 rfl rfl rfl
theorem wp_md_set_d101 : decode prog_13_method_54_code 101 = .ok (.pop, 1) := wt_op87 wb19m9_prog_13_method_54_code_c3 17 rfl rfl
theorem wp_md_set_d102 : decode prog_13_method_54_code 102 = .ok (.aload_n 0, 1) := wt_op42 wb19m9_prog_13_method_54_code_c3 18 rfl rfl
theorem wp_md_set_d103 : decode prog_13_method_54_code 103 = .ok (.getfield 100, 3) := wt_op180 wb19m9_prog_13_method_54_code_c3 19 rfl rfl rfl
theorem wp_md_set_d106 : decode prog_13_method_54_code 106 = .ok (.iload_n 3, 1) := wt_op29 wb19m9_prog_13_method_54_code_c3 22 rfl rfl
theorem wp_md_set_d107 : decode prog_13_method_54_code 107 = .ok (.iload_n 1, 1) := wt_op27 wb19m9_prog_13_method_54_code_c3 23 rfl rfl
theorem wp_md_set_d108 : decode prog_13_method_54_code 108 = .ok (.iastore, 1) := wt_op79 wb19m9_prog_13_method_54_code_c3 24 rfl rfl
theorem wp_md_set_d109 : decode prog_13_method_54_code 109 = .ok (.aload_n 0, 1) := wt_op42 wb19m9_prog_13_method_54_code_c3 25 rfl rfl
theorem wp_md_set_d110 : decode prog_13_method_54_code 110 = .ok (.getfield 103, 3) := wt_op180 wb19m9_prog_13_method_54_code_c3 26 rfl rfl rfl
theorem wp_md_set_d113 : decode prog_13_method_54_code 113 = .ok (.iload_n 3, 1) := wt_op29 wb19m9_prog_13_method_54_code_c4 0 rfl rfl
theorem wp_md_set_d114 : decode prog_13_method_54_code 114 = .ok (.aload_n 0, 1) := wt_op42 wb19m9_prog_13_method_54_code_c4 1 rfl rfl
theorem wp_md_set_d115 : decode prog_13_method_54_code 115 = .ok (.getfield 316, 3) := wt_op180 wb19m9_prog_13_method_54_code_c4 2 rfl rfl rfl
theorem wp_md_set_d118 : decode prog_13_method_54_code 118 = .ok (.iastore, 1) := wt_op79 wb19m9_prog_13_method_54_code_c4 5 rfl rfl
theorem wp_md_set_d119 : decode prog_13_method_54_code 119 = .ok (.iconst 0, 1) := wt_op3 wb19m9_prog_13_method_54_code_c4 6 rfl rfl
theorem wp_md_set_d120 : decode prog_13_method_54_code 120 = .ok (.istore 4, 2) := wt_op54 wb19m9_prog_13_method_54_code_c4 7 rfl rfl
theorem wp_md_set_d122 : decode prog_13_method_54_code 122 = .ok (.iload 4, 2) := wt_op21 wb19m9_prog_13_method_54_code_c4 9 rfl rfl
theorem wp_md_set_d124 : decode prog_13_method_54_code 124 = .ok (.aload_n 0, 1) := wt_op42 wb19m9_prog_13_method_54_code_c4 11 rfl rfl
theorem wp_md_set_d125 : decode prog_13_method_54_code 125 = .ok (.getfield 316, 3) := wt_op180 wb19m9_prog_13_method_54_code_c4 12 rfl rfl rfl
theorem wp_md_set_d128 : decode prog_13_method_54_code 128 = .ok (.if_icmp .ge 25, 3) := wt_op162 wb19m9_prog_13_method_54_code_c4 15 rfl rfl rfl
theorem wp_md_set_d131 : decode prog_13_method_54_code 131 = .ok (.aload_n 0, 1) := wt_op42 wb19m9_prog_13_method_54_code_c4 18 rfl rfl
theorem wp_md_set_d132 : decode prog_13_method_54_code 132 = .ok (.getfield 106, 3) := wt_op180 wb19m9_prog_13_method_54_code_c4 19 rfl rfl rfl
theorem wp_md_set_d135 : decode prog_13_method_54_code 135 = .ok (.iload_n 3, 1) := wt_op29 wb19m9_prog_13_method_54_code_c4 22 rfl rfl
theorem wp_md_set_d136 : decode prog_13_method_54_code 136 = .ok (.aaload, 1) := wt_op50 wb19m9_prog_13_method_54_code_c4 23 rfl rfl
theorem wp_md_set_d137 : decode prog_13_method_54_code 137 = .ok (.iload 4, 2) := wt_op21 wb19m9_prog_13_method_54_code_c4 24 rfl rfl
theorem wp_md_set_d139 : decode prog_13_method_54_code 139 = .ok (.aload_n 0, 1) := wt_op42 wb19m9_prog_13_method_54_code_c4 26 rfl rfl
theorem wp_md_set_d140 : decode prog_13_method_54_code 140 = .ok (.getfield 118, 3) := wt_op180 wb19m9_prog_13_method_54_code_c4 27 rfl rfl rfl
theorem wp_md_set_d143 : decode prog_13_method_54_code 143 = .ok (.iload 4, 2) := wt_op21 wb19m9_prog_13_method_54_code_c5 0 rfl rfl
theorem wp_md_set_d145 : decode prog_13_method_54_code 145 = .ok (.iaload, 1) := wt_op46 wb19m9_prog_13_method_54_code_c5 2 rfl rfl
theorem wp_md_set_d146 : decode prog_13_method_54_code 146 = .ok (.iastore, 1) := wt_op79 wb19m9_prog_13_method_54_code_c5 3 rfl rfl
theorem wp_md_set_d147 : decode prog_13_method_54_code 147 = .ok (.iinc 4 1, 3) := wt_op132 wb19m9_prog_13_method_54_code_c5 4 rfl rfl rfl
theorem wp_md_set_d150 : decode prog_13_method_54_code 150 = .ok (.goto (-28), 3) := wt_op167 wb19m9_prog_13_method_54_code_c5 7 rfl rfl rfl
theorem wp_md_set_d153 : decode prog_13_method_54_code 153 = .ok (.iload_n 3, 1) := wt_op29 wb19m9_prog_13_method_54_code_c5 10 rfl rfl
theorem wp_md_set_d154 : decode prog_13_method_54_code 154 = .ok (.ireturn, 1) := wt_op172 wb19m9_prog_13_method_54_code_c5 11 rfl rfl
noncomputable def wp_md_set_B122 (n : Nat) (x3 : Int32) (K122 : Int32 × wt_St → Option (Int32 × wt_St)) (s : Int32 × wt_St) : Option (Int32 × wt_St) :=
  if (wt_gf s.2 108 54) ≤ s.1 then
    some (x3, s.2)
  else
    if x3 < 0 ∨ 4 ≤ Int32.toNatClampNeg x3 then none else
    if s.1 < 0 ∨ 108 ≤ Int32.toNatClampNeg s.1 then none else
    if s.1 < 0 ∨ 108 ≤ Int32.toNatClampNeg s.1 then none else
    K122 ((s.1 + (1 : Int32)), (wt_sa s.2 (278 + Int32.toNatClampNeg x3) (Int32.toNatClampNeg s.1) (wt_ga s.2 288 (Int32.toNatClampNeg s.1))))
set_option maxRecDepth 100000 in
set_option maxHeartbeats 4000000 in
theorem wp_md_set_B122_ok  {x3 : Int32} {X : wt_X} {n : Nat} {res : Int32 × wt_St} (hE : wt_Ok X prog_13_method_54_code 5 "WornTypeModel" 4 0) (hR : wt_Rt X (some .int) (some res.1) res.2) (hD : ∀ i, 108 ≤ i → i < 321 → wt_dom (wt_xw X) i)  {K122 : Int32 × wt_St → Option (Int32 × wt_St)} (hK122 : ∀ s : Int32 × wt_St, K122 s = some res → wt_V X 0 s.2 122 [some (.ref (wt_ad (wt_xw X) 108)), none, none, some (.int x3), some (.int s.1)] []) {s : Int32 × wt_St} (h : wp_md_set_B122 n x3 K122 s = some res) : wt_V X 0 s.2 122 [some (.ref (wt_ad (wt_xw X) 108)), none, none, some (.int x3), some (.int s.1)] [] := by
  unfold wp_md_set_B122 at h
  refine wt_iload hE wp_md_set_d122 rfl ?_
  refine wt_aload_n hE wp_md_set_d124 rfl ?_
  refine wt_geti hE wt_lf_md_316 (hD 108 (by decide) (by decide)) wt_L108 rfl wp_md_set_d125 ?_
  refine wt_icmp_ge hE 153 wp_md_set_d128 rfl (fun c17 => ?_) (fun c17 => ?_)
  · have h := wt_ip c17 h
    refine wt_iload_n hE wp_md_set_d153 rfl ?_
    cases h
    exact wt_iret hE hR wp_md_set_d154
  · have h := wt_in c17 h
    refine wt_aload_n hE wp_md_set_d131 rfl ?_
    refine wt_getr hE (r := 277) wt_lf_md_106 (hD 108 (by decide) (by decide)) wt_L108 rfl wp_md_set_d132 ?_
    refine wt_iload_n hE wp_md_set_d135 rfl ?_
    obtain ⟨g18, h⟩ := wt_gd h
    have lg18 := wt_lt g18
    refine wt_aald1 hE (hD 277 (by decide) (by decide)) wt_L277 g18 wp_md_set_d136 ?_
    refine wt_iload hE wp_md_set_d137 rfl ?_
    refine wt_aload_n hE wp_md_set_d139 rfl ?_
    refine wt_getr hE (r := 288) wt_lf_md_118 (hD 108 (by decide) (by decide)) wt_L108 rfl wp_md_set_d140 ?_
    refine wt_iload hE wp_md_set_d143 rfl ?_
    obtain ⟨g19, h⟩ := wt_gd h
    refine wt_iald hE (hD 288 (by decide) (by decide)) wt_L288 g19 wp_md_set_d145 ?_
    obtain ⟨g20, h⟩ := wt_gd h
    refine wt_iast hE (hD _ (by omega) (by omega)) (wt_G278 _ lg18) g20 wp_md_set_d146 ?_
    refine wt_iinc hE (s.1 + (1 : Int32)) [some (.ref (wt_ad (wt_xw X) 108)), none, none, some (.int x3), some (.int (s.1 + (1 : Int32)))] wp_md_set_d147 (by decide) rfl rfl rfl ?_
    refine wt_goto hE 122 wp_md_set_d150 rfl ?_
    exact hK122 ((s.1 + (1 : Int32)), (wt_sa s.2 (278 + Int32.toNatClampNeg x3) (Int32.toNatClampNeg s.1) (wt_ga s.2 288 (Int32.toNatClampNeg s.1)))) h
noncomputable def wp_md_set_B87 (n : Nat) (x1 : Int32) (x2 : Int32) (x3 : Int32) (σ : wt_St) : Option (Int32 × wt_St) :=
  if x3 = (4 : Int32) then
    some ((-2 : Int32), σ)
  else
    (wp_md_takes n x2 x3 σ).bind fun q14 =>
    if x3 < 0 ∨ 4 ≤ Int32.toNatClampNeg x3 then none else
    if x3 < 0 ∨ 4 ≤ Int32.toNatClampNeg x3 then none else
    wt_it (wp_md_set_B122 n x3) n ((0 : Int32), (wt_sa (wt_sa q14.2 275 (Int32.toNatClampNeg x3) x1) 276 (Int32.toNatClampNeg x3) (wt_gf (wt_sa q14.2 275 (Int32.toNatClampNeg x3) x1) 108 54)))
set_option maxRecDepth 100000 in
set_option maxHeartbeats 4000000 in
theorem wp_md_set_B87_ok  {x1 : Int32} {x2 : Int32} {x3 : Int32} {X : wt_X} {n : Nat} {res : Int32 × wt_St} (hE : wt_Ok X prog_13_method_54_code 5 "WornTypeModel" 4 0) (hR : wt_Rt X (some .int) (some res.1) res.2) (hD : ∀ i, 108 ≤ i → i < 321 → wt_dom (wt_xw X) i)  {σ : wt_St} (h : wp_md_set_B87 n x1 x2 x3 σ = some res) : wt_V X 0 σ 87 [some (.ref (wt_ad (wt_xw X) 108)), some (.int x1), some (.int x2), some (.int x3), none] [] := by
  unfold wp_md_set_B87 at h
  refine wt_iload_n hE wp_md_set_d87 rfl ?_
  refine wt_iconst hE (4 : Int32) wp_md_set_d88 wt_ci_4 ?_
  refine wt_icmp_ne hE 95 wp_md_set_d89 rfl (fun c13 => ?_) (fun c13 => ?_)
  · have h := wt_in c13 h
    refine wt_aload_n hE wp_md_set_d95 rfl ?_
    refine wt_iload_n hE wp_md_set_d96 rfl ?_
    refine wt_iload_n hE wp_md_set_d97 rfl ?_
    obtain ⟨q14, hq14, h⟩ := wt_bi h
    refine wt_callVi hE [.int x2, .int x3] wt_lm_md_322 wt_ya_md_takes (wp_md_takes_ok hD hq14) (by omega) (hD 108 (by decide) (by decide)) wt_L108 rfl rfl rfl (Nat.le_of_ble_eq_true rfl) (Nat.zero_le _) wp_md_set_d98 (fun hbq14 => ?_)
    refine wt_pop hE wp_md_set_d101 rfl ?_
    refine wt_aload_n hE wp_md_set_d102 rfl ?_
    refine wt_getr hE (r := 275) wt_lf_md_100 (hD 108 (by decide) (by decide)) wt_L108 rfl wp_md_set_d103 ?_
    refine wt_iload_n hE wp_md_set_d106 rfl ?_
    refine wt_iload_n hE wp_md_set_d107 rfl ?_
    obtain ⟨g15, h⟩ := wt_gd h
    refine wt_iast hE (hD 275 (by decide) (by decide)) wt_L275 g15 wp_md_set_d108 ?_
    refine wt_aload_n hE wp_md_set_d109 rfl ?_
    refine wt_getr hE (r := 276) wt_lf_md_103 (hD 108 (by decide) (by decide)) wt_L108 rfl wp_md_set_d110 ?_
    refine wt_iload_n hE wp_md_set_d113 rfl ?_
    refine wt_aload_n hE wp_md_set_d114 rfl ?_
    refine wt_geti hE wt_lf_md_316 (hD 108 (by decide) (by decide)) wt_L108 rfl wp_md_set_d115 ?_
    obtain ⟨g16, h⟩ := wt_gd h
    refine wt_iast hE (hD 276 (by decide) (by decide)) wt_L276 g16 wp_md_set_d118 ?_
    refine wt_iconst hE (0 : Int32) wp_md_set_d119 wt_ci_0 ?_
    refine wt_istore hE [some (.ref (wt_ad (wt_xw X) 108)), some (.int x1), some (.int x2), some (.int x3), some (.int (0 : Int32))] wp_md_set_d120 (Nat.le_of_ble_eq_true rfl) rfl ?_
    refine wt_wk [true, false, false, true, true] rfl ?_
    exact wt_it_ind (fun z => wt_V X 0 z.2 122 [some (.ref (wt_ad (wt_xw X) 108)), none, none, some (.int x3), some (.int z.1)] []) (fun K hK z h => wp_md_set_B122_ok hE hR hD hK h) n ((0 : Int32), (wt_sa (wt_sa q14.2 275 (Int32.toNatClampNeg x3) x1) 276 (Int32.toNatClampNeg x3) (wt_gf (wt_sa q14.2 275 (Int32.toNatClampNeg x3) x1) 108 54))) h
  · have h := wt_ip c13 h
    refine wt_bipush hE (-2 : Int32) wp_md_set_d92 wt_cb_m2 ?_
    cases h
    exact wt_iret hE hR wp_md_set_d94
noncomputable def wp_md_set_B66 (n : Nat) (x1 : Int32) (x2 : Int32) (K66 : Int32 × wt_St → Option (Int32 × wt_St)) (s : Int32 × wt_St) : Option (Int32 × wt_St) :=
  if (4 : Int32) ≤ s.1 then
    wp_md_set_B87 n x1 x2 s.1 s.2
  else
    if s.1 < 0 ∨ 4 ≤ Int32.toNatClampNeg s.1 then none else
    if (wt_ga s.2 275 (Int32.toNatClampNeg s.1)) = (-1 : Int32) then
      wp_md_set_B87 n x1 x2 s.1 s.2
    else
      K66 ((s.1 + (1 : Int32)), s.2)
set_option maxRecDepth 100000 in
set_option maxHeartbeats 4000000 in
theorem wp_md_set_B66_ok  {x1 : Int32} {x2 : Int32} {X : wt_X} {n : Nat} {res : Int32 × wt_St} (hE : wt_Ok X prog_13_method_54_code 5 "WornTypeModel" 4 0) (hR : wt_Rt X (some .int) (some res.1) res.2) (hD : ∀ i, 108 ≤ i → i < 321 → wt_dom (wt_xw X) i)  {K66 : Int32 × wt_St → Option (Int32 × wt_St)} (hK66 : ∀ s : Int32 × wt_St, K66 s = some res → wt_V X 0 s.2 66 [some (.ref (wt_ad (wt_xw X) 108)), some (.int x1), some (.int x2), some (.int s.1), none] []) {s : Int32 × wt_St} (h : wp_md_set_B66 n x1 x2 K66 s = some res) : wt_V X 0 s.2 66 [some (.ref (wt_ad (wt_xw X) 108)), some (.int x1), some (.int x2), some (.int s.1), none] [] := by
  unfold wp_md_set_B66 at h
  refine wt_iload_n hE wp_md_set_d66 rfl ?_
  refine wt_iconst hE (4 : Int32) wp_md_set_d67 wt_ci_4 ?_
  refine wt_icmp_ge hE 87 wp_md_set_d68 rfl (fun c12 => ?_) (fun c12 => ?_)
  · have h := wt_ip c12 h
    exact wp_md_set_B87_ok hE hR hD h
  · have h := wt_in c12 h
    refine wt_aload_n hE wp_md_set_d71 rfl ?_
    refine wt_getr hE (r := 275) wt_lf_md_100 (hD 108 (by decide) (by decide)) wt_L108 rfl wp_md_set_d72 ?_
    refine wt_iload_n hE wp_md_set_d75 rfl ?_
    obtain ⟨g21, h⟩ := wt_gd h
    refine wt_iald hE (hD 275 (by decide) (by decide)) wt_L275 g21 wp_md_set_d76 ?_
    refine wt_iconst hE (-1 : Int32) wp_md_set_d77 wt_ci_m1 ?_
    refine wt_icmp_eq hE 87 wp_md_set_d78 rfl (fun c22 => ?_) (fun c22 => ?_)
    · have h := wt_ip c22 h
      exact wp_md_set_B87_ok hE hR hD h
    · have h := wt_in c22 h
      refine wt_iinc hE (s.1 + (1 : Int32)) [some (.ref (wt_ad (wt_xw X) 108)), some (.int x1), some (.int x2), some (.int (s.1 + (1 : Int32))), none] wp_md_set_d81 (by decide) rfl rfl rfl ?_
      refine wt_goto hE 66 wp_md_set_d84 rfl ?_
      exact hK66 ((s.1 + (1 : Int32)), s.2) h
noncomputable def wp_md_set_B39 (n : Nat) (x1 : Int32) (x2 : Int32) (y1 : Int32) (σ : wt_St) : Option (Int32 × wt_St) :=
  (wp_md_bad n y1 (2 : Int32) σ).bind fun q7 =>
  if q7.1 = 0 then
    (wp_md_needsText n x1 q7.2).bind fun q9 =>
    (wp_md_lacking n x2 q9).bind fun q10 =>
    if q10.1 = (-1 : Int32) then
      wt_it (wp_md_set_B66 n x1 x2) n ((0 : Int32), q10.2)
    else
      some ((-1 : Int32), q10.2)
  else
    some ((0 : Int32), q7.2)
set_option maxRecDepth 100000 in
set_option maxHeartbeats 4000000 in
theorem wp_md_set_B39_ok  {x1 : Int32} {x2 : Int32} {X : wt_X} {n : Nat} {res : Int32 × wt_St} (hE : wt_Ok X prog_13_method_54_code 5 "WornTypeModel" 4 0) (hR : wt_Rt X (some .int) (some res.1) res.2) (hD : ∀ i, 108 ≤ i → i < 321 → wt_dom (wt_xw X) i)  {σ : wt_St} {y1 : Int32} (h : wp_md_set_B39 n x1 x2 y1 σ = some res) : wt_V X 0 σ 39 [some (.ref (wt_ad (wt_xw X) 108)), some (.int x1), some (.int x2), none, none] [.int y1, .ref (wt_ad (wt_xw X) 108)] := by
  unfold wp_md_set_B39 at h
  refine wt_iconst hE (2 : Int32) wp_md_set_d39 wt_ci_2 ?_
  obtain ⟨q7, hq7, h⟩ := wt_bi h
  refine wt_callVi hE [.int y1, .int (2 : Int32)] wt_lm_md_230 wt_ya_md_bad (wp_md_bad_ok hD hq7) (by omega) (hD 108 (by decide) (by decide)) wt_L108 rfl rfl rfl (Nat.le_of_ble_eq_true rfl) (Nat.zero_le _) wp_md_set_d40 (fun hbq7 => ?_)
  refine wt_if_eq hE 48 wp_md_set_d43 rfl (fun c8 => ?_) (fun c8 => ?_)
  · have h := wt_ip c8 h
    refine wt_iconst hE (0 : Int32) wp_md_set_d48 wt_ci_0 ?_
    refine wt_istore_n hE [some (.ref (wt_ad (wt_xw X) 108)), some (.int x1), some (.int x2), some (.int (0 : Int32)), none] wp_md_set_d49 (by decide) rfl ?_
    refine wt_aload_n hE wp_md_set_d50 rfl ?_
    refine wt_iload_n hE wp_md_set_d51 rfl ?_
    obtain ⟨q9, hq9, h⟩ := wt_bi h
    refine wt_callVv hE [.int x1] wt_lm_md_310 wt_ya_md_needsText (wp_md_needsText_ok hD hq9) (by omega) (hD 108 (by decide) (by decide)) wt_L108 rfl rfl rfl (Nat.le_of_ble_eq_true rfl) (Nat.zero_le _) wp_md_set_d52 ?_
    refine wt_aload_n hE wp_md_set_d55 rfl ?_
    refine wt_iload_n hE wp_md_set_d56 rfl ?_
    obtain ⟨q10, hq10, h⟩ := wt_bi h
    refine wt_callVi hE [.int x2] wt_lm_md_292 wt_ya_md_lacking (wp_md_lacking_ok hD hq10) (by omega) (hD 108 (by decide) (by decide)) wt_L108 rfl rfl rfl (Nat.le_of_ble_eq_true rfl) (Nat.zero_le _) wp_md_set_d57 (fun hbq10 => ?_)
    refine wt_iconst hE (-1 : Int32) wp_md_set_d60 wt_ci_m1 ?_
    refine wt_icmp_eq hE 66 wp_md_set_d61 rfl (fun c11 => ?_) (fun c11 => ?_)
    · have h := wt_ip c11 h
      exact wt_it_ind (fun z => wt_V X 0 z.2 66 [some (.ref (wt_ad (wt_xw X) 108)), some (.int x1), some (.int x2), some (.int z.1), none] []) (fun K hK z h => wp_md_set_B66_ok hE hR hD hK h) n ((0 : Int32), q10.2) h
    · have h := wt_in c11 h
      refine wt_iconst hE (-1 : Int32) wp_md_set_d64 wt_ci_m1 ?_
      cases h
      exact wt_iret hE hR wp_md_set_d65
  · have h := wt_in c8 h
    refine wt_iconst hE (0 : Int32) wp_md_set_d46 wt_ci_0 ?_
    cases h
    exact wt_iret hE hR wp_md_set_d47
noncomputable def wp_md_set_B19 (n : Nat) (x1 : Int32) (x2 : Int32) (y1 : Int32) (σ : wt_St) : Option (Int32 × wt_St) :=
  (wp_md_bad n y1 (1 : Int32) σ).bind fun q3 =>
  if q3.1 = 0 then
    (wp_md_isCopies n x2 q3.2).bind fun q5 =>
    if q5.1 = 0 then
      wp_md_set_B39 n x1 x2 (1 : Int32) q5.2
    else
      wp_md_set_B39 n x1 x2 (0 : Int32) q5.2
  else
    some ((0 : Int32), q3.2)
set_option maxRecDepth 100000 in
set_option maxHeartbeats 4000000 in
theorem wp_md_set_B19_ok  {x1 : Int32} {x2 : Int32} {X : wt_X} {n : Nat} {res : Int32 × wt_St} (hE : wt_Ok X prog_13_method_54_code 5 "WornTypeModel" 4 0) (hR : wt_Rt X (some .int) (some res.1) res.2) (hD : ∀ i, 108 ≤ i → i < 321 → wt_dom (wt_xw X) i)  {σ : wt_St} {y1 : Int32} (h : wp_md_set_B19 n x1 x2 y1 σ = some res) : wt_V X 0 σ 19 [some (.ref (wt_ad (wt_xw X) 108)), some (.int x1), some (.int x2), none, none] [.int y1, .ref (wt_ad (wt_xw X) 108)] := by
  unfold wp_md_set_B19 at h
  refine wt_iconst hE (1 : Int32) wp_md_set_d19 wt_ci_1 ?_
  obtain ⟨q3, hq3, h⟩ := wt_bi h
  refine wt_callVi hE [.int y1, .int (1 : Int32)] wt_lm_md_230 wt_ya_md_bad (wp_md_bad_ok hD hq3) (by omega) (hD 108 (by decide) (by decide)) wt_L108 rfl rfl rfl (Nat.le_of_ble_eq_true rfl) (Nat.zero_le _) wp_md_set_d20 (fun hbq3 => ?_)
  refine wt_if_ne hE 46 wp_md_set_d23 rfl (fun c4 => ?_) (fun c4 => ?_)
  · have h := wt_in c4 h
    refine wt_iconst hE (0 : Int32) wp_md_set_d46 wt_ci_0 ?_
    cases h
    exact wt_iret hE hR wp_md_set_d47
  · have h := wt_ip c4 h
    refine wt_aload_n hE wp_md_set_d26 rfl ?_
    refine wt_iload_n hE wp_md_set_d27 rfl ?_
    obtain ⟨q5, hq5, h⟩ := wt_bi h
    refine wt_callSi hE [.int x2] wt_lm_md_313 wt_ya_md_isCopies (wp_md_isCopies_ok hq5) (by omega) rfl rfl (Nat.le_of_ble_eq_true rfl) (Nat.zero_le _) wp_md_set_d28 (fun hbq5 => ?_)
    refine wt_if_ne hE 38 wp_md_set_d31 rfl (fun c6 => ?_) (fun c6 => ?_)
    · have h := wt_in c6 h
      refine wt_iconst hE (0 : Int32) wp_md_set_d38 wt_ci_0 ?_
      exact wp_md_set_B39_ok hE hR hD h
    · have h := wt_ip c6 h
      refine wt_iconst hE (1 : Int32) wp_md_set_d34 wt_ci_1 ?_
      refine wt_goto hE 39 wp_md_set_d35 rfl ?_
      exact wp_md_set_B39_ok hE hR hD h
noncomputable def wp_md_set (n : Nat) (x1 : Int32) (x2 : Int32) (σ : wt_St) : Option (Int32 × wt_St) :=
  (wp_md_isText n x1 (wt_sf σ 108 0 (0 : Int32))).bind fun q1 =>
  if q1.1 = 0 then
    wp_md_set_B19 n x1 x2 (1 : Int32) q1.2
  else
    wp_md_set_B19 n x1 x2 (0 : Int32) q1.2
set_option maxRecDepth 100000 in
set_option maxHeartbeats 4000000 in
theorem wp_md_set_ok {l : Launch} {w : wt_E} {n : Nat} {x1 : Int32} {x2 : Int32} (hD : ∀ i, 108 ≤ i → i < 321 → wt_dom w i) {σ : wt_St} {q : Int32 × wt_St} (h : wp_md_set n x1 x2 σ = some q) : wt_Ctr l w wt_y_md_set prog_13_method_54_code 5 (some .int) 4 [.ref (wt_ad w 108), .int x1, .int x2] σ (some q.1) q.2 := by
  refine wt_ctr wt_pl_md_set rfl (Nat.le_of_ble_eq_true rfl) [some (.ref (wt_ad w 108)), some (.int x1), some (.int x2), none, none] rfl ?_
  intro X hXl hXw hE hR
  subst hXl
  subst hXw
  have hE : wt_Ok X prog_13_method_54_code 5 "WornTypeModel" 4 0 := hE
  unfold wp_md_set at h
  refine wt_aload_n hE wp_md_set_d0 rfl ?_
  refine wt_iconst hE (0 : Int32) wp_md_set_d1 wt_ci_0 ?_
  refine wt_puti hE wt_lf_md_151 (hD 108 (by decide) (by decide)) wt_L108 rfl (fun q hq => by cases hq; rfl) wp_md_set_d2 ?_
  refine wt_aload_n hE wp_md_set_d5 rfl ?_
  refine wt_aload_n hE wp_md_set_d6 rfl ?_
  refine wt_iload_n hE wp_md_set_d7 rfl ?_
  obtain ⟨q1, hq1, h⟩ := wt_bi h
  refine wt_callVi hE [.int x1] wt_lm_md_307 wt_ya_md_isText (wp_md_isText_ok hD hq1) (by omega) (hD 108 (by decide) (by decide)) wt_L108 rfl rfl rfl (Nat.le_of_ble_eq_true rfl) (Nat.zero_le _) wp_md_set_d8 (fun hbq1 => ?_)
  refine wt_if_ne hE 18 wp_md_set_d11 rfl (fun c2 => ?_) (fun c2 => ?_)
  · have h := wt_in c2 h
    refine wt_iconst hE (0 : Int32) wp_md_set_d18 wt_ci_0 ?_
    exact wp_md_set_B19_ok hE hR hD h
  · have h := wt_ip c2 h
    refine wt_iconst hE (1 : Int32) wp_md_set_d14 wt_ci_1 ?_
    refine wt_goto hE 19 wp_md_set_d15 rfl ?_
    exact wp_md_set_B19_ok hE hR hD h
def wb19m9_prog_13_method_30_code_r1 : List (List Nat) := [167, 255, 230, 27, 172] :: []
def wb19m9_prog_13_method_30_code_r0 : List (List Nat) := [3, 60, 3, 61, 28, 7, 162, 0, 27, 27, 42, 180, 0, 100, 28, 46, 2, 160, 0, 7, 3, 167, 0, 4, 4, 96, 60, 132, 2, 1] :: wb19m9_prog_13_method_30_code_r1
set_option maxRecDepth 100000 in
theorem wb19m9_prog_13_method_30_code_c0 : wt_cs prog_13_method_30_code 0 wb19m9_prog_13_method_30_code_r0 := wt_cs_of (by decide +kernel)
theorem wb19m9_prog_13_method_30_code_c1 : wt_cs prog_13_method_30_code 30 wb19m9_prog_13_method_30_code_r1 := wt_cs_tl (m := 30) wb19m9_prog_13_method_30_code_c0 rfl rfl
theorem wp_md_standing_d0 : decode prog_13_method_30_code 0 = .ok (.iconst 0, 1) := wt_op3 wb19m9_prog_13_method_30_code_c0 0 rfl rfl
theorem wp_md_standing_d1 : decode prog_13_method_30_code 1 = .ok (.istore_n 1, 1) := wt_op60 wb19m9_prog_13_method_30_code_c0 1 rfl rfl
theorem wp_md_standing_d2 : decode prog_13_method_30_code 2 = .ok (.iconst 0, 1) := wt_op3 wb19m9_prog_13_method_30_code_c0 2 rfl rfl
theorem wp_md_standing_d3 : decode prog_13_method_30_code 3 = .ok (.istore_n 2, 1) := wt_op61 wb19m9_prog_13_method_30_code_c0 3 rfl rfl
theorem wp_md_standing_d4 : decode prog_13_method_30_code 4 = .ok (.iload_n 2, 1) := wt_op28 wb19m9_prog_13_method_30_code_c0 4 rfl rfl
theorem wp_md_standing_d5 : decode prog_13_method_30_code 5 = .ok (.iconst 4, 1) := wt_op7 wb19m9_prog_13_method_30_code_c0 5 rfl rfl
theorem wp_md_standing_d6 : decode prog_13_method_30_code 6 = .ok (.if_icmp .ge 27, 3) := wt_op162 wb19m9_prog_13_method_30_code_c0 6 rfl rfl rfl
theorem wp_md_standing_d9 : decode prog_13_method_30_code 9 = .ok (.iload_n 1, 1) := wt_op27 wb19m9_prog_13_method_30_code_c0 9 rfl rfl
theorem wp_md_standing_d10 : decode prog_13_method_30_code 10 = .ok (.aload_n 0, 1) := wt_op42 wb19m9_prog_13_method_30_code_c0 10 rfl rfl
theorem wp_md_standing_d11 : decode prog_13_method_30_code 11 = .ok (.getfield 100, 3) := wt_op180 wb19m9_prog_13_method_30_code_c0 11 rfl rfl rfl
theorem wp_md_standing_d14 : decode prog_13_method_30_code 14 = .ok (.iload_n 2, 1) := wt_op28 wb19m9_prog_13_method_30_code_c0 14 rfl rfl
theorem wp_md_standing_d15 : decode prog_13_method_30_code 15 = .ok (.iaload, 1) := wt_op46 wb19m9_prog_13_method_30_code_c0 15 rfl rfl
theorem wp_md_standing_d16 : decode prog_13_method_30_code 16 = .ok (.iconst (-1), 1) := wt_op2 wb19m9_prog_13_method_30_code_c0 16 rfl rfl
theorem wp_md_standing_d17 : decode prog_13_method_30_code 17 = .ok (.if_icmp .ne 7, 3) := wt_op160 wb19m9_prog_13_method_30_code_c0 17 rfl rfl rfl
theorem wp_md_standing_d20 : decode prog_13_method_30_code 20 = .ok (.iconst 0, 1) := wt_op3 wb19m9_prog_13_method_30_code_c0 20 rfl rfl
theorem wp_md_standing_d21 : decode prog_13_method_30_code 21 = .ok (.goto 4, 3) := wt_op167 wb19m9_prog_13_method_30_code_c0 21 rfl rfl rfl
theorem wp_md_standing_d24 : decode prog_13_method_30_code 24 = .ok (.iconst 1, 1) := wt_op4 wb19m9_prog_13_method_30_code_c0 24 rfl rfl
theorem wp_md_standing_d25 : decode prog_13_method_30_code 25 = .ok (.iadd, 1) := wt_op96 wb19m9_prog_13_method_30_code_c0 25 rfl rfl
theorem wp_md_standing_d26 : decode prog_13_method_30_code 26 = .ok (.istore_n 1, 1) := wt_op60 wb19m9_prog_13_method_30_code_c0 26 rfl rfl
theorem wp_md_standing_d27 : decode prog_13_method_30_code 27 = .ok (.iinc 2 1, 3) := wt_op132 wb19m9_prog_13_method_30_code_c0 27 rfl rfl rfl
theorem wp_md_standing_d30 : decode prog_13_method_30_code 30 = .ok (.goto (-26), 3) := wt_op167 wb19m9_prog_13_method_30_code_c1 0 rfl rfl rfl
theorem wp_md_standing_d33 : decode prog_13_method_30_code 33 = .ok (.iload_n 1, 1) := wt_op27 wb19m9_prog_13_method_30_code_c1 3 rfl rfl
theorem wp_md_standing_d34 : decode prog_13_method_30_code 34 = .ok (.ireturn, 1) := wt_op172 wb19m9_prog_13_method_30_code_c1 4 rfl rfl
noncomputable def wp_md_standing_B25 (n : Nat) (x2 : Int32) (K4 : Int32 × Int32 × wt_St → Option (Int32 × wt_St)) (y0 : Int32) (y1 : Int32) (σ : wt_St) : Option (Int32 × wt_St) :=
  K4 ((y0 + y1), (x2 + (1 : Int32)), σ)
set_option maxRecDepth 100000 in
set_option maxHeartbeats 4000000 in
theorem wp_md_standing_B25_ok  {x2 : Int32} {X : wt_X} {n : Nat} {res : Int32 × wt_St} (hE : wt_Ok X prog_13_method_30_code 3 "WornTypeModel" 0 0) (hR : wt_Rt X (some .int) (some res.1) res.2) (hD : ∀ i, 108 ≤ i → i < 321 → wt_dom (wt_xw X) i)  {K4 : Int32 × Int32 × wt_St → Option (Int32 × wt_St)} (hK4 : ∀ s : Int32 × Int32 × wt_St, K4 s = some res → wt_V X 0 s.2.2 4 [some (.ref (wt_ad (wt_xw X) 108)), some (.int s.1), some (.int s.2.1)] []) {σ : wt_St} {y0 : Int32} {y1 : Int32} (h : wp_md_standing_B25 n x2 K4 y0 y1 σ = some res) : wt_V X 0 σ 25 [some (.ref (wt_ad (wt_xw X) 108)), none, some (.int x2)] [.int y1, .int y0] := by
  unfold wp_md_standing_B25 at h
  refine wt_iadd hE wp_md_standing_d25 ?_
  refine wt_istore_n hE [some (.ref (wt_ad (wt_xw X) 108)), some (.int (y0 + y1)), some (.int x2)] wp_md_standing_d26 (by decide) rfl ?_
  refine wt_iinc hE (x2 + (1 : Int32)) [some (.ref (wt_ad (wt_xw X) 108)), some (.int (y0 + y1)), some (.int (x2 + (1 : Int32)))] wp_md_standing_d27 (by decide) rfl rfl rfl ?_
  refine wt_goto hE 4 wp_md_standing_d30 rfl ?_
  exact hK4 ((y0 + y1), (x2 + (1 : Int32)), σ) h
noncomputable def wp_md_standing_B4 (n : Nat) (K4 : Int32 × Int32 × wt_St → Option (Int32 × wt_St)) (s : Int32 × Int32 × wt_St) : Option (Int32 × wt_St) :=
  if (4 : Int32) ≤ s.2.1 then
    some (s.1, s.2.2)
  else
    if s.2.1 < 0 ∨ 4 ≤ Int32.toNatClampNeg s.2.1 then none else
    if (wt_ga s.2.2 275 (Int32.toNatClampNeg s.2.1)) = (-1 : Int32) then
      wp_md_standing_B25 n s.2.1 K4 s.1 (0 : Int32) s.2.2
    else
      wp_md_standing_B25 n s.2.1 K4 s.1 (1 : Int32) s.2.2
set_option maxRecDepth 100000 in
set_option maxHeartbeats 4000000 in
theorem wp_md_standing_B4_ok  {X : wt_X} {n : Nat} {res : Int32 × wt_St} (hE : wt_Ok X prog_13_method_30_code 3 "WornTypeModel" 0 0) (hR : wt_Rt X (some .int) (some res.1) res.2) (hD : ∀ i, 108 ≤ i → i < 321 → wt_dom (wt_xw X) i)  {K4 : Int32 × Int32 × wt_St → Option (Int32 × wt_St)} (hK4 : ∀ s : Int32 × Int32 × wt_St, K4 s = some res → wt_V X 0 s.2.2 4 [some (.ref (wt_ad (wt_xw X) 108)), some (.int s.1), some (.int s.2.1)] []) {s : Int32 × Int32 × wt_St} (h : wp_md_standing_B4 n K4 s = some res) : wt_V X 0 s.2.2 4 [some (.ref (wt_ad (wt_xw X) 108)), some (.int s.1), some (.int s.2.1)] [] := by
  unfold wp_md_standing_B4 at h
  refine wt_iload_n hE wp_md_standing_d4 rfl ?_
  refine wt_iconst hE (4 : Int32) wp_md_standing_d5 wt_ci_4 ?_
  refine wt_icmp_ge hE 33 wp_md_standing_d6 rfl (fun c1 => ?_) (fun c1 => ?_)
  · have h := wt_ip c1 h
    refine wt_iload_n hE wp_md_standing_d33 rfl ?_
    cases h
    exact wt_iret hE hR wp_md_standing_d34
  · have h := wt_in c1 h
    refine wt_iload_n hE wp_md_standing_d9 rfl ?_
    refine wt_aload_n hE wp_md_standing_d10 rfl ?_
    refine wt_getr hE (r := 275) wt_lf_md_100 (hD 108 (by decide) (by decide)) wt_L108 rfl wp_md_standing_d11 ?_
    refine wt_iload_n hE wp_md_standing_d14 rfl ?_
    obtain ⟨g2, h⟩ := wt_gd h
    refine wt_iald hE (hD 275 (by decide) (by decide)) wt_L275 g2 wp_md_standing_d15 ?_
    refine wt_iconst hE (-1 : Int32) wp_md_standing_d16 wt_ci_m1 ?_
    refine wt_icmp_ne hE 24 wp_md_standing_d17 rfl (fun c3 => ?_) (fun c3 => ?_)
    · have h := wt_in c3 h
      refine wt_iconst hE (1 : Int32) wp_md_standing_d24 wt_ci_1 ?_
      refine wt_wk [true, false, true] rfl ?_
      exact wp_md_standing_B25_ok hE hR hD hK4 h
    · have h := wt_ip c3 h
      refine wt_iconst hE (0 : Int32) wp_md_standing_d20 wt_ci_0 ?_
      refine wt_goto hE 25 wp_md_standing_d21 rfl ?_
      refine wt_wk [true, false, true] rfl ?_
      exact wp_md_standing_B25_ok hE hR hD hK4 h
noncomputable def wp_md_standing (n : Nat) (σ : wt_St) : Option (Int32 × wt_St) :=
  wt_it (wp_md_standing_B4 n) n ((0 : Int32), (0 : Int32), σ)
set_option maxRecDepth 100000 in
set_option maxHeartbeats 4000000 in
theorem wp_md_standing_ok {l : Launch} {w : wt_E} {n : Nat} (hD : ∀ i, 108 ≤ i → i < 321 → wt_dom w i) {σ : wt_St} {q : Int32 × wt_St} (h : wp_md_standing n σ = some q) : wt_Ctr l w wt_y_md_standing prog_13_method_30_code 3 (some .int) 0 [.ref (wt_ad w 108)] σ (some q.1) q.2 := by
  refine wt_ctr wt_pl_md_standing rfl (Nat.le_of_ble_eq_true rfl) [some (.ref (wt_ad w 108)), none, none] rfl ?_
  intro X hXl hXw hE hR
  subst hXl
  subst hXw
  have hE : wt_Ok X prog_13_method_30_code 3 "WornTypeModel" 0 0 := hE
  unfold wp_md_standing at h
  refine wt_iconst hE (0 : Int32) wp_md_standing_d0 wt_ci_0 ?_
  refine wt_istore_n hE [some (.ref (wt_ad (wt_xw X) 108)), some (.int (0 : Int32)), none] wp_md_standing_d1 (by decide) rfl ?_
  refine wt_iconst hE (0 : Int32) wp_md_standing_d2 wt_ci_0 ?_
  refine wt_istore_n hE [some (.ref (wt_ad (wt_xw X) 108)), some (.int (0 : Int32)), some (.int (0 : Int32))] wp_md_standing_d3 (by decide) rfl ?_
  exact wt_it_ind (fun z => wt_V X 0 z.2.2 4 [some (.ref (wt_ad (wt_xw X) 108)), some (.int z.1), some (.int z.2.1)] []) (fun K hK z h => wp_md_standing_B4_ok hE hR hD hK h) n ((0 : Int32), (0 : Int32), σ) h
def wb19m9_prog_13_method_28_code_r9 : List (List Nat) := [4, 96, 181, 1, 9, 42, 180, 1, 9, 4, 100, 172] :: []
def wb19m9_prog_13_method_28_code_r8 : List (List Nat) := [42, 180, 0, 91, 42, 180, 1, 9, 50, 29, 42, 180, 0, 97, 29, 46, 79, 132, 3, 1, 167, 255, 231, 42, 89, 180, 1, 9] :: wb19m9_prog_13_method_28_code_r9
def wb19m9_prog_13_method_28_code_r7 : List (List Nat) := [153, 0, 11, 42, 180, 0, 167, 16, 10, 100, 172, 42, 180, 0, 88, 42, 180, 1, 9, 28, 79, 3, 62, 29, 28, 162, 0, 26] :: wb19m9_prog_13_method_28_code_r8
def wb19m9_prog_13_method_28_code_r6 : List (List Nat) := [42, 89, 180, 0, 160, 29, 96, 181, 0, 160, 42, 182, 0, 173, 167, 255, 126, 42, 42, 180, 0, 170, 181, 0, 9, 42, 180, 0, 167] :: wb19m9_prog_13_method_28_code_r7
def wb19m9_prog_13_method_28_code_r5 : List (List Nat) := [42, 6, 42, 180, 0, 160, 182, 0, 180, 42, 180, 0, 167, 153, 0, 6, 167, 0, 31, 42, 180, 0, 97, 28, 21, 4, 79, 132, 2, 1] :: wb19m9_prog_13_method_28_code_r6
def wb19m9_prog_13_method_28_code_r4 : List (List Nat) := [182, 0, 180, 167, 0, 36, 21, 4, 2, 160, 0, 15, 42, 5, 42, 180, 0, 160, 182, 0, 180, 167, 0, 18, 28, 16, 12, 160, 0, 12] :: wb19m9_prog_13_method_28_code_r5
def wb19m9_prog_13_method_28_code_r3 : List (List Nat) := [62, 42, 29, 42, 180, 0, 85, 42, 180, 0, 65, 42, 180, 1, 3, 182, 0, 249, 54, 4, 29, 154, 0, 15, 42, 4, 42, 180, 0, 160] :: wb19m9_prog_13_method_28_code_r4
def wb19m9_prog_13_method_28_code_r2 : List (List Nat) := [2, 172, 3, 61, 42, 180, 0, 167, 154, 0, 129, 42, 180, 0, 160, 42, 180, 0, 157, 161, 0, 7, 28, 154, 0, 114, 42, 182, 0, 192] :: wb19m9_prog_13_method_28_code_r3
def wb19m9_prog_13_method_28_code_r1 : List (List Nat) := [3, 4, 182, 0, 230, 153, 0, 5, 3, 172, 42, 27, 182, 0, 234, 42, 2, 181, 0, 9, 42, 180, 1, 9, 16, 8, 160, 0, 5] :: wb19m9_prog_13_method_28_code_r2
def wb19m9_prog_13_method_28_code_r0 : List (List Nat) := [42, 3, 181, 0, 151, 42, 27, 3, 42, 180, 0, 154, 184, 0, 185, 153, 0, 10, 27, 17, 0, 200, 164, 0, 7, 4, 167, 0, 4] :: wb19m9_prog_13_method_28_code_r1
set_option maxRecDepth 100000 in
theorem wb19m9_prog_13_method_28_code_c0 : wt_cs prog_13_method_28_code 0 wb19m9_prog_13_method_28_code_r0 := wt_cs_of (by decide +kernel)
theorem wb19m9_prog_13_method_28_code_c1 : wt_cs prog_13_method_28_code 29 wb19m9_prog_13_method_28_code_r1 := wt_cs_tl (m := 29) wb19m9_prog_13_method_28_code_c0 rfl rfl
theorem wb19m9_prog_13_method_28_code_c2 : wt_cs prog_13_method_28_code 58 wb19m9_prog_13_method_28_code_r2 := wt_cs_tl (m := 29) wb19m9_prog_13_method_28_code_c1 rfl rfl
theorem wb19m9_prog_13_method_28_code_c3 : wt_cs prog_13_method_28_code 88 wb19m9_prog_13_method_28_code_r3 := wt_cs_tl (m := 30) wb19m9_prog_13_method_28_code_c2 rfl rfl
theorem wb19m9_prog_13_method_28_code_c4 : wt_cs prog_13_method_28_code 118 wb19m9_prog_13_method_28_code_r4 := wt_cs_tl (m := 30) wb19m9_prog_13_method_28_code_c3 rfl rfl
theorem wb19m9_prog_13_method_28_code_c5 : wt_cs prog_13_method_28_code 148 wb19m9_prog_13_method_28_code_r5 := wt_cs_tl (m := 30) wb19m9_prog_13_method_28_code_c4 rfl rfl
theorem wb19m9_prog_13_method_28_code_c6 : wt_cs prog_13_method_28_code 178 wb19m9_prog_13_method_28_code_r6 := wt_cs_tl (m := 30) wb19m9_prog_13_method_28_code_c5 rfl rfl
theorem wb19m9_prog_13_method_28_code_c7 : wt_cs prog_13_method_28_code 207 wb19m9_prog_13_method_28_code_r7 := wt_cs_tl (m := 29) wb19m9_prog_13_method_28_code_c6 rfl rfl
theorem wb19m9_prog_13_method_28_code_c8 : wt_cs prog_13_method_28_code 235 wb19m9_prog_13_method_28_code_r8 := wt_cs_tl (m := 28) wb19m9_prog_13_method_28_code_c7 rfl rfl
theorem wb19m9_prog_13_method_28_code_c9 : wt_cs prog_13_method_28_code 263 wb19m9_prog_13_method_28_code_r9 := wt_cs_tl (m := 28) wb19m9_prog_13_method_28_code_c8 rfl rfl
theorem wp_md_text_d0 : decode prog_13_method_28_code 0 = .ok (.aload_n 0, 1) := wt_op42 wb19m9_prog_13_method_28_code_c0 0 rfl rfl
theorem wp_md_text_d1 : decode prog_13_method_28_code 1 = .ok (.iconst 0, 1) := wt_op3 wb19m9_prog_13_method_28_code_c0 1 rfl rfl
theorem wp_md_text_d2 : decode prog_13_method_28_code 2 = .ok (.putfield 151, 3) := wt_op181 wb19m9_prog_13_method_28_code_c0 2 rfl rfl rfl
theorem wp_md_text_d5 : decode prog_13_method_28_code 5 = .ok (.aload_n 0, 1) := wt_op42 wb19m9_prog_13_method_28_code_c0 5 rfl rfl
theorem wp_md_text_d6 : decode prog_13_method_28_code 6 = .ok (.iload_n 1, 1) := wt_op27 wb19m9_prog_13_method_28_code_c0 6 rfl rfl
theorem wp_md_text_d7 : decode prog_13_method_28_code 7 = .ok (.iconst 0, 1) := wt_op3 wb19m9_prog_13_method_28_code_c0 7 rfl rfl
theorem wp_md_text_d8 : decode prog_13_method_28_code 8 = .ok (.aload_n 0, 1) := wt_op42 wb19m9_prog_13_method_28_code_c0 8 rfl rfl
theorem wp_md_text_d9 : decode prog_13_method_28_code 9 = .ok (.getfield 154, 3) := wt_op180 wb19m9_prog_13_method_28_code_c0 9 rfl rfl rfl
theorem wp_md_text_d12 : decode prog_13_method_28_code 12 = .ok (.invokestatic 185, 3) := wt_op184 wb19m9_prog_13_method_28_code_c0 12 rfl rfl rfl
theorem wp_md_text_d15 : decode prog_13_method_28_code 15 = .ok (.ifCond .eq 10, 3) := wt_op153 wb19m9_prog_13_method_28_code_c0 15 rfl rfl rfl
theorem wp_md_text_d18 : decode prog_13_method_28_code 18 = .ok (.iload_n 1, 1) := wt_op27 wb19m9_prog_13_method_28_code_c0 18 rfl rfl
theorem wp_md_text_d19 : decode prog_13_method_28_code 19 = .ok (.sipush 200, 3) := wt_op17 wb19m9_prog_13_method_28_code_c0 19 rfl rfl rfl
theorem wp_md_text_d22 : decode prog_13_method_28_code 22 = .ok (.if_icmp .le 7, 3) := wt_op164 wb19m9_prog_13_method_28_code_c0 22 rfl rfl rfl
theorem wp_md_text_d25 : decode prog_13_method_28_code 25 = .ok (.iconst 1, 1) := wt_op4 wb19m9_prog_13_method_28_code_c0 25 rfl rfl
theorem wp_md_text_d26 : decode prog_13_method_28_code 26 = .ok (.goto 4, 3) := wt_op167 wb19m9_prog_13_method_28_code_c0 26 rfl rfl rfl
theorem wp_md_text_d29 : decode prog_13_method_28_code 29 = .ok (.iconst 0, 1) := wt_op3 wb19m9_prog_13_method_28_code_c1 0 rfl rfl
theorem wp_md_text_d30 : decode prog_13_method_28_code 30 = .ok (.iconst 1, 1) := wt_op4 wb19m9_prog_13_method_28_code_c1 1 rfl rfl
theorem wp_md_text_d31 : decode prog_13_method_28_code 31 = .ok (.invokevirtual 230, 3) := wt_op182 wb19m9_prog_13_method_28_code_c1 2 rfl rfl rfl
theorem wp_md_text_d34 : decode prog_13_method_28_code 34 = .ok (.ifCond .eq 5, 3) := wt_op153 wb19m9_prog_13_method_28_code_c1 5 rfl rfl rfl
theorem wp_md_text_d37 : decode prog_13_method_28_code 37 = .ok (.iconst 0, 1) := wt_op3 wb19m9_prog_13_method_28_code_c1 8 rfl rfl
theorem wp_md_text_d38 : decode prog_13_method_28_code 38 = .ok (.ireturn, 1) := wt_op172 wb19m9_prog_13_method_28_code_c1 9 rfl rfl
theorem wp_md_text_d39 : decode prog_13_method_28_code 39 = .ok (.aload_n 0, 1) := wt_op42 wb19m9_prog_13_method_28_code_c1 10 rfl rfl
theorem wp_md_text_d40 : decode prog_13_method_28_code 40 = .ok (.iload_n 1, 1) := wt_op27 wb19m9_prog_13_method_28_code_c1 11 rfl rfl
theorem wp_md_text_d41 : decode prog_13_method_28_code 41 = .ok (.invokevirtual 234, 3) := wt_op182 wb19m9_prog_13_method_28_code_c1 12 rfl rfl rfl
theorem wp_md_text_d44 : decode prog_13_method_28_code 44 = .ok (.aload_n 0, 1) := wt_op42 wb19m9_prog_13_method_28_code_c1 15 rfl rfl
theorem wp_md_text_d45 : decode prog_13_method_28_code 45 = .ok (.iconst (-1), 1) := wt_op2 wb19m9_prog_13_method_28_code_c1 16 rfl rfl
theorem wp_md_text_d46 : decode prog_13_method_28_code 46 = .ok (.putfield 9, 3) := wt_op181 wb19m9_prog_13_method_28_code_c1 17 rfl rfl rfl
theorem wp_md_text_d49 : decode prog_13_method_28_code 49 = .ok (.aload_n 0, 1) := wt_op42 wb19m9_prog_13_method_28_code_c1 20 rfl rfl
theorem wp_md_text_d50 : decode prog_13_method_28_code 50 = .ok (.getfield 265, 3) := wt_op180 wb19m9_prog_13_method_28_code_c1 21 rfl rfl rfl
theorem wp_md_text_d53 : decode prog_13_method_28_code 53 = .ok (.bipush 8, 2) := wt_op16 wb19m9_prog_13_method_28_code_c1 24 rfl rfl rfl
theorem wp_md_text_d55 : decode prog_13_method_28_code 55 = .ok (.if_icmp .ne 5, 3) := wt_op160 wb19m9_prog_13_method_28_code_c1 26 rfl rfl rfl
theorem wp_md_text_d58 : decode prog_13_method_28_code 58 = .ok (.iconst (-1), 1) := wt_op2 wb19m9_prog_13_method_28_code_c2 0 rfl rfl
theorem wp_md_text_d59 : decode prog_13_method_28_code 59 = .ok (.ireturn, 1) := wt_op172 wb19m9_prog_13_method_28_code_c2 1 rfl rfl
theorem wp_md_text_d60 : decode prog_13_method_28_code 60 = .ok (.iconst 0, 1) := wt_op3 wb19m9_prog_13_method_28_code_c2 2 rfl rfl
theorem wp_md_text_d61 : decode prog_13_method_28_code 61 = .ok (.istore_n 2, 1) := wt_op61 wb19m9_prog_13_method_28_code_c2 3 rfl rfl
theorem wp_md_text_d62 : decode prog_13_method_28_code 62 = .ok (.aload_n 0, 1) := wt_op42 wb19m9_prog_13_method_28_code_c2 4 rfl rfl
theorem wp_md_text_d63 : decode prog_13_method_28_code 63 = .ok (.getfield 167, 3) := wt_op180 wb19m9_prog_13_method_28_code_c2 5 rfl rfl rfl
theorem wp_md_text_d66 : decode prog_13_method_28_code 66 = .ok (.ifCond .ne 129, 3) := wt_op154 wb19m9_prog_13_method_28_code_c2 8 rfl rfl rfl
theorem wp_md_text_d69 : decode prog_13_method_28_code 69 = .ok (.aload_n 0, 1) := wt_op42 wb19m9_prog_13_method_28_code_c2 11 rfl rfl
theorem wp_md_text_d70 : decode prog_13_method_28_code 70 = .ok (.getfield 160, 3) := wt_op180 wb19m9_prog_13_method_28_code_c2 12 rfl rfl rfl
theorem wp_md_text_d73 : decode prog_13_method_28_code 73 = .ok (.aload_n 0, 1) := wt_op42 wb19m9_prog_13_method_28_code_c2 15 rfl rfl
theorem wp_md_text_d74 : decode prog_13_method_28_code 74 = .ok (.getfield 157, 3) := wt_op180 wb19m9_prog_13_method_28_code_c2 16 rfl rfl rfl
theorem wp_md_text_d77 : decode prog_13_method_28_code 77 = .ok (.if_icmp .lt 7, 3) := wt_op161 wb19m9_prog_13_method_28_code_c2 19 rfl rfl rfl
theorem wp_md_text_d80 : decode prog_13_method_28_code 80 = .ok (.iload_n 2, 1) := wt_op28 wb19m9_prog_13_method_28_code_c2 22 rfl rfl
theorem wp_md_text_d81 : decode prog_13_method_28_code 81 = .ok (.ifCond .ne 114, 3) := wt_op154 wb19m9_prog_13_method_28_code_c2 23 rfl rfl rfl
theorem wp_md_text_d84 : decode prog_13_method_28_code 84 = .ok (.aload_n 0, 1) := wt_op42 wb19m9_prog_13_method_28_code_c2 26 rfl rfl
theorem wp_md_text_d85 : decode prog_13_method_28_code 85 = .ok (.invokevirtual 192, 3) := wt_op182 wb19m9_prog_13_method_28_code_c2 27 rfl rfl rfl
theorem wp_md_text_d88 : decode prog_13_method_28_code 88 = .ok (.istore_n 3, 1) := wt_op62 wb19m9_prog_13_method_28_code_c3 0 rfl rfl
theorem wp_md_text_d89 : decode prog_13_method_28_code 89 = .ok (.aload_n 0, 1) := wt_op42 wb19m9_prog_13_method_28_code_c3 1 rfl rfl
theorem wp_md_text_d90 : decode prog_13_method_28_code 90 = .ok (.iload_n 3, 1) := wt_op29 wb19m9_prog_13_method_28_code_c3 2 rfl rfl
theorem wp_md_text_d91 : decode prog_13_method_28_code 91 = .ok (.aload_n 0, 1) := wt_op42 wb19m9_prog_13_method_28_code_c3 3 rfl rfl
theorem wp_md_text_d92 : decode prog_13_method_28_code 92 = .ok (.getfield 85, 3) := wt_op180 wb19m9_prog_13_method_28_code_c3 4 rfl rfl rfl
theorem wp_md_text_d95 : decode prog_13_method_28_code 95 = .ok (.aload_n 0, 1) := wt_op42 wb19m9_prog_13_method_28_code_c3 7 rfl rfl
theorem wp_md_text_d96 : decode prog_13_method_28_code 96 = .ok (.getfield 65, 3) := wt_op180 wb19m9_prog_13_method_28_code_c3 8 rfl rfl rfl
theorem wp_md_text_d99 : decode prog_13_method_28_code 99 = .ok (.aload_n 0, 1) := wt_op42 wb19m9_prog_13_method_28_code_c3 11 rfl rfl
theorem wp_md_text_d100 : decode prog_13_method_28_code 100 = .ok (.getfield 259, 3) := wt_op180 wb19m9_prog_13_method_28_code_c3 12 rfl rfl rfl
theorem wp_md_text_d103 : decode prog_13_method_28_code 103 = .ok (.invokevirtual 249, 3) := wt_op182 wb19m9_prog_13_method_28_code_c3 15 rfl rfl rfl
theorem wp_md_text_d106 : decode prog_13_method_28_code 106 = .ok (.istore 4, 2) := wt_op54 wb19m9_prog_13_method_28_code_c3 18 rfl rfl
theorem wp_md_text_d108 : decode prog_13_method_28_code 108 = .ok (.iload_n 3, 1) := wt_op29 wb19m9_prog_13_method_28_code_c3 20 rfl rfl
theorem wp_md_text_d109 : decode prog_13_method_28_code 109 = .ok (.ifCond .ne 15, 3) := wt_op154 wb19m9_prog_13_method_28_code_c3 21 rfl rfl rfl
theorem wp_md_text_d112 : decode prog_13_method_28_code 112 = .ok (.aload_n 0, 1) := wt_op42 wb19m9_prog_13_method_28_code_c3 24 rfl rfl
theorem wp_md_text_d113 : decode prog_13_method_28_code 113 = .ok (.iconst 1, 1) := wt_op4 wb19m9_prog_13_method_28_code_c3 25 rfl rfl
theorem wp_md_text_d114 : decode prog_13_method_28_code 114 = .ok (.aload_n 0, 1) := wt_op42 wb19m9_prog_13_method_28_code_c3 26 rfl rfl
theorem wp_md_text_d115 : decode prog_13_method_28_code 115 = .ok (.getfield 160, 3) := wt_op180 wb19m9_prog_13_method_28_code_c3 27 rfl rfl rfl
theorem wp_md_text_d118 : decode prog_13_method_28_code 118 = .ok (.invokevirtual 180, 3) := wt_op182 wb19m9_prog_13_method_28_code_c4 0 rfl rfl rfl
theorem wp_md_text_d121 : decode prog_13_method_28_code 121 = .ok (.goto 36, 3) := wt_op167 wb19m9_prog_13_method_28_code_c4 3 rfl rfl rfl
theorem wp_md_text_d124 : decode prog_13_method_28_code 124 = .ok (.iload 4, 2) := wt_op21 wb19m9_prog_13_method_28_code_c4 6 rfl rfl
theorem wp_md_text_d126 : decode prog_13_method_28_code 126 = .ok (.iconst (-1), 1) := wt_op2 wb19m9_prog_13_method_28_code_c4 8 rfl rfl
theorem wp_md_text_d127 : decode prog_13_method_28_code 127 = .ok (.if_icmp .ne 15, 3) := wt_op160 wb19m9_prog_13_method_28_code_c4 9 rfl rfl rfl
theorem wp_md_text_d130 : decode prog_13_method_28_code 130 = .ok (.aload_n 0, 1) := wt_op42 wb19m9_prog_13_method_28_code_c4 12 rfl rfl
theorem wp_md_text_d131 : decode prog_13_method_28_code 131 = .ok (.iconst 2, 1) := wt_op5 wb19m9_prog_13_method_28_code_c4 13 rfl rfl
theorem wp_md_text_d132 : decode prog_13_method_28_code 132 = .ok (.aload_n 0, 1) := wt_op42 wb19m9_prog_13_method_28_code_c4 14 rfl rfl
theorem wp_md_text_d133 : decode prog_13_method_28_code 133 = .ok (.getfield 160, 3) := wt_op180 wb19m9_prog_13_method_28_code_c4 15 rfl rfl rfl
theorem wp_md_text_d136 : decode prog_13_method_28_code 136 = .ok (.invokevirtual 180, 3) := wt_op182 wb19m9_prog_13_method_28_code_c4 18 rfl rfl rfl
theorem wp_md_text_d139 : decode prog_13_method_28_code 139 = .ok (.goto 18, 3) := wt_op167 wb19m9_prog_13_method_28_code_c4 21 rfl rfl rfl
theorem wp_md_text_d142 : decode prog_13_method_28_code 142 = .ok (.iload_n 2, 1) := wt_op28 wb19m9_prog_13_method_28_code_c4 24 rfl rfl
theorem wp_md_text_d143 : decode prog_13_method_28_code 143 = .ok (.bipush 12, 2) := wt_op16 wb19m9_prog_13_method_28_code_c4 25 rfl rfl rfl
theorem wp_md_text_d145 : decode prog_13_method_28_code 145 = .ok (.if_icmp .ne 12, 3) := wt_op160 wb19m9_prog_13_method_28_code_c4 27 rfl rfl rfl
theorem wp_md_text_d148 : decode prog_13_method_28_code 148 = .ok (.aload_n 0, 1) := wt_op42 wb19m9_prog_13_method_28_code_c5 0 rfl rfl
theorem wp_md_text_d149 : decode prog_13_method_28_code 149 = .ok (.iconst 3, 1) := wt_op6 wb19m9_prog_13_method_28_code_c5 1 rfl rfl
theorem wp_md_text_d150 : decode prog_13_method_28_code 150 = .ok (.aload_n 0, 1) := wt_op42 wb19m9_prog_13_method_28_code_c5 2 rfl rfl
theorem wp_md_text_d151 : decode prog_13_method_28_code 151 = .ok (.getfield 160, 3) := wt_op180 wb19m9_prog_13_method_28_code_c5 3 rfl rfl rfl
theorem wp_md_text_d154 : decode prog_13_method_28_code 154 = .ok (.invokevirtual 180, 3) := wt_op182 wb19m9_prog_13_method_28_code_c5 6 rfl rfl rfl
theorem wp_md_text_d157 : decode prog_13_method_28_code 157 = .ok (.aload_n 0, 1) := wt_op42 wb19m9_prog_13_method_28_code_c5 9 rfl rfl
theorem wp_md_text_d158 : decode prog_13_method_28_code 158 = .ok (.getfield 167, 3) := wt_op180 wb19m9_prog_13_method_28_code_c5 10 rfl rfl rfl
theorem wp_md_text_d161 : decode prog_13_method_28_code 161 = .ok (.ifCond .eq 6, 3) := wt_op153 wb19m9_prog_13_method_28_code_c5 13 rfl rfl rfl
theorem wp_md_text_d164 : decode prog_13_method_28_code 164 = .ok (.goto 31, 3) := wt_op167 wb19m9_prog_13_method_28_code_c5 16 rfl rfl rfl
theorem wp_md_text_d167 : decode prog_13_method_28_code 167 = .ok (.aload_n 0, 1) := wt_op42 wb19m9_prog_13_method_28_code_c5 19 rfl rfl
theorem wp_md_text_d168 : decode prog_13_method_28_code 168 = .ok (.getfield 97, 3) := wt_op180 wb19m9_prog_13_method_28_code_c5 20 rfl rfl rfl
theorem wp_md_text_d171 : decode prog_13_method_28_code 171 = .ok (.iload_n 2, 1) := wt_op28 wb19m9_prog_13_method_28_code_c5 23 rfl rfl
theorem wp_md_text_d172 : decode prog_13_method_28_code 172 = .ok (.iload 4, 2) := wt_op21 wb19m9_prog_13_method_28_code_c5 24 rfl rfl
theorem wp_md_text_d174 : decode prog_13_method_28_code 174 = .ok (.iastore, 1) := wt_op79 wb19m9_prog_13_method_28_code_c5 26 rfl rfl
theorem wp_md_text_d175 : decode prog_13_method_28_code 175 = .ok (.iinc 2 1, 3) := wt_op132 wb19m9_prog_13_method_28_code_c5 27 rfl rfl rfl
theorem wp_md_text_d178 : decode prog_13_method_28_code 178 = .ok (.aload_n 0, 1) := wt_op42 wb19m9_prog_13_method_28_code_c6 0 rfl rfl
theorem wp_md_text_d179 : decode prog_13_method_28_code 179 = .ok (.dup, 1) := wt_op89 wb19m9_prog_13_method_28_code_c6 1 rfl rfl
theorem wp_md_text_d180 : decode prog_13_method_28_code 180 = .ok (.getfield 160, 3) := wt_op180 wb19m9_prog_13_method_28_code_c6 2 rfl rfl rfl
theorem wp_md_text_d183 : decode prog_13_method_28_code 183 = .ok (.iload_n 3, 1) := wt_op29 wb19m9_prog_13_method_28_code_c6 5 rfl rfl
theorem wp_md_text_d184 : decode prog_13_method_28_code 184 = .ok (.iadd, 1) := wt_op96 wb19m9_prog_13_method_28_code_c6 6 rfl rfl
theorem wp_md_text_d185 : decode prog_13_method_28_code 185 = .ok (.putfield 160, 3) := wt_op181 wb19m9_prog_13_method_28_code_c6 7 rfl rfl rfl
theorem wp_md_text_d188 : decode prog_13_method_28_code 188 = .ok (.aload_n 0, 1) := wt_op42 wb19m9_prog_13_method_28_code_c6 10 rfl rfl
theorem wp_md_text_d189 : decode prog_13_method_28_code 189 = .ok (.invokevirtual 173, 3) := wt_op182 wb19m9_prog_13_method_28_code_c6 11 rfl rfl rfl
theorem wp_md_text_d192 : decode prog_13_method_28_code 192 = .ok (.goto (-130), 3) := wt_op167 wb19m9_prog_13_method_28_code_c6 14 rfl rfl rfl
theorem wp_md_text_d195 : decode prog_13_method_28_code 195 = .ok (.aload_n 0, 1) := wt_op42 wb19m9_prog_13_method_28_code_c6 17 rfl rfl
theorem wp_md_text_d196 : decode prog_13_method_28_code 196 = .ok (.aload_n 0, 1) := wt_op42 wb19m9_prog_13_method_28_code_c6 18 rfl rfl
theorem wp_md_text_d197 : decode prog_13_method_28_code 197 = .ok (.getfield 170, 3) := wt_op180 wb19m9_prog_13_method_28_code_c6 19 rfl rfl rfl
theorem wp_md_text_d200 : decode prog_13_method_28_code 200 = .ok (.putfield 9, 3) := wt_op181 wb19m9_prog_13_method_28_code_c6 22 rfl rfl rfl
theorem wp_md_text_d203 : decode prog_13_method_28_code 203 = .ok (.aload_n 0, 1) := wt_op42 wb19m9_prog_13_method_28_code_c6 25 rfl rfl
theorem wp_md_text_d204 : decode prog_13_method_28_code 204 = .ok (.getfield 167, 3) := wt_op180 wb19m9_prog_13_method_28_code_c6 26 rfl rfl rfl
theorem wp_md_text_d207 : decode prog_13_method_28_code 207 = .ok (.ifCond .eq 11, 3) := wt_op153 wb19m9_prog_13_method_28_code_c7 0 rfl rfl rfl
theorem wp_md_text_d210 : decode prog_13_method_28_code 210 = .ok (.aload_n 0, 1) := wt_op42 wb19m9_prog_13_method_28_code_c7 3 rfl rfl
theorem wp_md_text_d211 : decode prog_13_method_28_code 211 = .ok (.getfield 167, 3) := wt_op180 wb19m9_prog_13_method_28_code_c7 4 rfl rfl rfl
theorem wp_md_text_d214 : decode prog_13_method_28_code 214 = .ok (.bipush 10, 2) := wt_op16 wb19m9_prog_13_method_28_code_c7 7 rfl rfl rfl
theorem wp_md_text_d216 : decode prog_13_method_28_code 216 = .ok (.isub, 1) := wt_op100 wb19m9_prog_13_method_28_code_c7 9 rfl rfl
theorem wp_md_text_d217 : decode prog_13_method_28_code 217 = .ok (.ireturn, 1) := wt_op172 wb19m9_prog_13_method_28_code_c7 10 rfl rfl
theorem wp_md_text_d218 : decode prog_13_method_28_code 218 = .ok (.aload_n 0, 1) := wt_op42 wb19m9_prog_13_method_28_code_c7 11 rfl rfl
theorem wp_md_text_d219 : decode prog_13_method_28_code 219 = .ok (.getfield 88, 3) := wt_op180 wb19m9_prog_13_method_28_code_c7 12 rfl rfl rfl
theorem wp_md_text_d222 : decode prog_13_method_28_code 222 = .ok (.aload_n 0, 1) := wt_op42 wb19m9_prog_13_method_28_code_c7 15 rfl rfl
theorem wp_md_text_d223 : decode prog_13_method_28_code 223 = .ok (.getfield 265, 3) := wt_op180 wb19m9_prog_13_method_28_code_c7 16 rfl rfl rfl
theorem wp_md_text_d226 : decode prog_13_method_28_code 226 = .ok (.iload_n 2, 1) := wt_op28 wb19m9_prog_13_method_28_code_c7 19 rfl rfl
theorem wp_md_text_d227 : decode prog_13_method_28_code 227 = .ok (.iastore, 1) := wt_op79 wb19m9_prog_13_method_28_code_c7 20 rfl rfl
theorem wp_md_text_d228 : decode prog_13_method_28_code 228 = .ok (.iconst 0, 1) := wt_op3 wb19m9_prog_13_method_28_code_c7 21 rfl rfl
theorem wp_md_text_d229 : decode prog_13_method_28_code 229 = .ok (.istore_n 3, 1) := wt_op62 wb19m9_prog_13_method_28_code_c7 22 rfl rfl
theorem wp_md_text_d230 : decode prog_13_method_28_code 230 = .ok (.iload_n 3, 1) := wt_op29 wb19m9_prog_13_method_28_code_c7 23 rfl rfl
theorem wp_md_text_d231 : decode prog_13_method_28_code 231 = .ok (.iload_n 2, 1) := wt_op28 wb19m9_prog_13_method_28_code_c7 24 rfl rfl
theorem wp_md_text_d232 : decode prog_13_method_28_code 232 = .ok (.if_icmp .ge 26, 3) := wt_op162 wb19m9_prog_13_method_28_code_c7 25 rfl rfl rfl
theorem wp_md_text_d235 : decode prog_13_method_28_code 235 = .ok (.aload_n 0, 1) := wt_op42 wb19m9_prog_13_method_28_code_c8 0 rfl rfl
theorem wp_md_text_d236 : decode prog_13_method_28_code 236 = .ok (.getfield 91, 3) := wt_op180 wb19m9_prog_13_method_28_code_c8 1 rfl rfl rfl
theorem wp_md_text_d239 : decode prog_13_method_28_code 239 = .ok (.aload_n 0, 1) := wt_op42 wb19m9_prog_13_method_28_code_c8 4 rfl rfl
theorem wp_md_text_d240 : decode prog_13_method_28_code 240 = .ok (.getfield 265, 3) := wt_op180 wb19m9_prog_13_method_28_code_c8 5 rfl rfl rfl
theorem wp_md_text_d243 : decode prog_13_method_28_code 243 = .ok (.aaload, 1) := wt_op50 wb19m9_prog_13_method_28_code_c8 8 rfl rfl
theorem wp_md_text_d244 : decode prog_13_method_28_code 244 = .ok (.iload_n 3, 1) := wt_op29 wb19m9_prog_13_method_28_code_c8 9 rfl rfl
theorem wp_md_text_d245 : decode prog_13_method_28_code 245 = .ok (.aload_n 0, 1) := wt_op42 wb19m9_prog_13_method_28_code_c8 10 rfl rfl
theorem wp_md_text_d246 : decode prog_13_method_28_code 246 = .ok (.getfield 97, 3) := wt_op180 wb19m9_prog_13_method_28_code_c8 11 rfl rfl rfl
theorem wp_md_text_d249 : decode prog_13_method_28_code 249 = .ok (.iload_n 3, 1) := wt_op29 wb19m9_prog_13_method_28_code_c8 14 rfl rfl
theorem wp_md_text_d250 : decode prog_13_method_28_code 250 = .ok (.iaload, 1) := wt_op46 wb19m9_prog_13_method_28_code_c8 15 rfl rfl
theorem wp_md_text_d251 : decode prog_13_method_28_code 251 = .ok (.iastore, 1) := wt_op79 wb19m9_prog_13_method_28_code_c8 16 rfl rfl
theorem wp_md_text_d252 : decode prog_13_method_28_code 252 = .ok (.iinc 3 1, 3) := wt_op132 wb19m9_prog_13_method_28_code_c8 17 rfl rfl rfl
theorem wp_md_text_d255 : decode prog_13_method_28_code 255 = .ok (.goto (-25), 3) := wt_op167 wb19m9_prog_13_method_28_code_c8 20 rfl rfl rfl
theorem wp_md_text_d258 : decode prog_13_method_28_code 258 = .ok (.aload_n 0, 1) := wt_op42 wb19m9_prog_13_method_28_code_c8 23 rfl rfl
theorem wp_md_text_d259 : decode prog_13_method_28_code 259 = .ok (.dup, 1) := wt_op89 wb19m9_prog_13_method_28_code_c8 24 rfl rfl
theorem wp_md_text_d260 : decode prog_13_method_28_code 260 = .ok (.getfield 265, 3) := wt_op180 wb19m9_prog_13_method_28_code_c8 25 rfl rfl rfl
theorem wp_md_text_d263 : decode prog_13_method_28_code 263 = .ok (.iconst 1, 1) := wt_op4 wb19m9_prog_13_method_28_code_c9 0 rfl rfl
theorem wp_md_text_d264 : decode prog_13_method_28_code 264 = .ok (.iadd, 1) := wt_op96 wb19m9_prog_13_method_28_code_c9 1 rfl rfl
theorem wp_md_text_d265 : decode prog_13_method_28_code 265 = .ok (.putfield 265, 3) := wt_op181 wb19m9_prog_13_method_28_code_c9 2 rfl rfl rfl
theorem wp_md_text_d268 : decode prog_13_method_28_code 268 = .ok (.aload_n 0, 1) := wt_op42 wb19m9_prog_13_method_28_code_c9 5 rfl rfl
theorem wp_md_text_d269 : decode prog_13_method_28_code 269 = .ok (.getfield 265, 3) := wt_op180 wb19m9_prog_13_method_28_code_c9 6 rfl rfl rfl
theorem wp_md_text_d272 : decode prog_13_method_28_code 272 = .ok (.iconst 1, 1) := wt_op4 wb19m9_prog_13_method_28_code_c9 9 rfl rfl
theorem wp_md_text_d273 : decode prog_13_method_28_code 273 = .ok (.isub, 1) := wt_op100 wb19m9_prog_13_method_28_code_c9 10 rfl rfl
theorem wp_md_text_d274 : decode prog_13_method_28_code 274 = .ok (.ireturn, 1) := wt_op172 wb19m9_prog_13_method_28_code_c9 11 rfl rfl
noncomputable def wp_md_text_B230 (n : Nat) (x2 : Int32) (K230 : Int32 × wt_St → Option (Int32 × wt_St)) (s : Int32 × wt_St) : Option (Int32 × wt_St) :=
  if x2 ≤ s.1 then
    some (((wt_gf (wt_sf s.2 108 39 ((wt_gf s.2 108 39) + (1 : Int32))) 108 39) - (1 : Int32)), (wt_sf s.2 108 39 ((wt_gf s.2 108 39) + (1 : Int32))))
  else
    if (wt_gf s.2 108 39) < 0 ∨ 8 ≤ Int32.toNatClampNeg (wt_gf s.2 108 39) then none else
    if s.1 < 0 ∨ 12 ≤ Int32.toNatClampNeg s.1 then none else
    if s.1 < 0 ∨ 12 ≤ Int32.toNatClampNeg s.1 then none else
    K230 ((s.1 + (1 : Int32)), (wt_sa s.2 (255 + Int32.toNatClampNeg (wt_gf s.2 108 39)) (Int32.toNatClampNeg s.1) (wt_ga s.2 274 (Int32.toNatClampNeg s.1))))
set_option maxRecDepth 100000 in
set_option maxHeartbeats 4000000 in
theorem wp_md_text_B230_ok  {x2 : Int32} {X : wt_X} {n : Nat} {res : Int32 × wt_St} (hE : wt_Ok X prog_13_method_28_code 5 "WornTypeModel" 3 0) (hR : wt_Rt X (some .int) (some res.1) res.2) (hD : ∀ i, 108 ≤ i → i < 321 → wt_dom (wt_xw X) i)  {K230 : Int32 × wt_St → Option (Int32 × wt_St)} (hK230 : ∀ s : Int32 × wt_St, K230 s = some res → wt_V X 0 s.2 230 [some (.ref (wt_ad (wt_xw X) 108)), none, some (.int x2), some (.int s.1), none] []) {s : Int32 × wt_St} (h : wp_md_text_B230 n x2 K230 s = some res) : wt_V X 0 s.2 230 [some (.ref (wt_ad (wt_xw X) 108)), none, some (.int x2), some (.int s.1), none] [] := by
  unfold wp_md_text_B230 at h
  refine wt_iload_n hE wp_md_text_d230 rfl ?_
  refine wt_iload_n hE wp_md_text_d231 rfl ?_
  refine wt_icmp_ge hE 258 wp_md_text_d232 rfl (fun c10 => ?_) (fun c10 => ?_)
  · have h := wt_ip c10 h
    refine wt_aload_n hE wp_md_text_d258 rfl ?_
    refine wt_dup hE wp_md_text_d259 rfl ?_
    refine wt_geti hE wt_lf_md_265 (hD 108 (by decide) (by decide)) wt_L108 rfl wp_md_text_d260 ?_
    refine wt_iconst hE (1 : Int32) wp_md_text_d263 wt_ci_1 ?_
    refine wt_iadd hE wp_md_text_d264 ?_
    refine wt_puti hE wt_lf_md_265 (hD 108 (by decide) (by decide)) wt_L108 rfl (fun q hq => by cases hq; rfl) wp_md_text_d265 ?_
    refine wt_aload_n hE wp_md_text_d268 rfl ?_
    refine wt_geti hE wt_lf_md_265 (hD 108 (by decide) (by decide)) wt_L108 rfl wp_md_text_d269 ?_
    refine wt_iconst hE (1 : Int32) wp_md_text_d272 wt_ci_1 ?_
    refine wt_isub hE wp_md_text_d273 ?_
    cases h
    exact wt_iret hE hR wp_md_text_d274
  · have h := wt_in c10 h
    refine wt_aload_n hE wp_md_text_d235 rfl ?_
    refine wt_getr hE (r := 254) wt_lf_md_91 (hD 108 (by decide) (by decide)) wt_L108 rfl wp_md_text_d236 ?_
    refine wt_aload_n hE wp_md_text_d239 rfl ?_
    refine wt_geti hE wt_lf_md_265 (hD 108 (by decide) (by decide)) wt_L108 rfl wp_md_text_d240 ?_
    obtain ⟨g11, h⟩ := wt_gd h
    have lg11 := wt_lt g11
    refine wt_aald1 hE (hD 254 (by decide) (by decide)) wt_L254 g11 wp_md_text_d243 ?_
    refine wt_iload_n hE wp_md_text_d244 rfl ?_
    refine wt_aload_n hE wp_md_text_d245 rfl ?_
    refine wt_getr hE (r := 274) wt_lf_md_97 (hD 108 (by decide) (by decide)) wt_L108 rfl wp_md_text_d246 ?_
    refine wt_iload_n hE wp_md_text_d249 rfl ?_
    obtain ⟨g12, h⟩ := wt_gd h
    refine wt_iald hE (hD 274 (by decide) (by decide)) wt_L274 g12 wp_md_text_d250 ?_
    obtain ⟨g13, h⟩ := wt_gd h
    refine wt_iast hE (hD _ (by omega) (by omega)) (wt_G255 _ lg11) g13 wp_md_text_d251 ?_
    refine wt_iinc hE (s.1 + (1 : Int32)) [some (.ref (wt_ad (wt_xw X) 108)), none, some (.int x2), some (.int (s.1 + (1 : Int32))), none] wp_md_text_d252 (by decide) rfl rfl rfl ?_
    refine wt_goto hE 230 wp_md_text_d255 rfl ?_
    exact hK230 ((s.1 + (1 : Int32)), (wt_sa s.2 (255 + Int32.toNatClampNeg (wt_gf s.2 108 39)) (Int32.toNatClampNeg s.1) (wt_ga s.2 274 (Int32.toNatClampNeg s.1)))) h
noncomputable def wp_md_text_B195 (n : Nat) (x2 : Int32) (σ : wt_St) : Option (Int32 × wt_St) :=
  if (wt_gf (wt_sf σ 108 3 (wt_gf σ 108 6)) 108 5) = 0 then
    if (wt_gf (wt_sf σ 108 3 (wt_gf σ 108 6)) 108 39) < 0 ∨ 8 ≤ Int32.toNatClampNeg (wt_gf (wt_sf σ 108 3 (wt_gf σ 108 6)) 108 39) then none else
    wt_it (wp_md_text_B230 n x2) n ((0 : Int32), (wt_sa (wt_sf σ 108 3 (wt_gf σ 108 6)) 253 (Int32.toNatClampNeg (wt_gf (wt_sf σ 108 3 (wt_gf σ 108 6)) 108 39)) x2))
  else
    some (((wt_gf (wt_sf σ 108 3 (wt_gf σ 108 6)) 108 5) - (10 : Int32)), (wt_sf σ 108 3 (wt_gf σ 108 6)))
set_option maxRecDepth 100000 in
set_option maxHeartbeats 4000000 in
theorem wp_md_text_B195_ok  {x2 : Int32} {X : wt_X} {n : Nat} {res : Int32 × wt_St} (hE : wt_Ok X prog_13_method_28_code 5 "WornTypeModel" 3 0) (hR : wt_Rt X (some .int) (some res.1) res.2) (hD : ∀ i, 108 ≤ i → i < 321 → wt_dom (wt_xw X) i)  {σ : wt_St} (h : wp_md_text_B195 n x2 σ = some res) : wt_V X 0 σ 195 [some (.ref (wt_ad (wt_xw X) 108)), none, some (.int x2), none, none] [] := by
  unfold wp_md_text_B195 at h
  refine wt_aload_n hE wp_md_text_d195 rfl ?_
  refine wt_aload_n hE wp_md_text_d196 rfl ?_
  refine wt_geti hE wt_lf_md_170 (hD 108 (by decide) (by decide)) wt_L108 rfl wp_md_text_d197 ?_
  refine wt_puti hE wt_lf_md_9 (hD 108 (by decide) (by decide)) wt_L108 rfl (fun q hq => by cases hq; rfl) wp_md_text_d200 ?_
  refine wt_aload_n hE wp_md_text_d203 rfl ?_
  refine wt_geti hE wt_lf_md_167 (hD 108 (by decide) (by decide)) wt_L108 rfl wp_md_text_d204 ?_
  refine wt_if_eq hE 218 wp_md_text_d207 rfl (fun c8 => ?_) (fun c8 => ?_)
  · have h := wt_ip c8 h
    refine wt_aload_n hE wp_md_text_d218 rfl ?_
    refine wt_getr hE (r := 253) wt_lf_md_88 (hD 108 (by decide) (by decide)) wt_L108 rfl wp_md_text_d219 ?_
    refine wt_aload_n hE wp_md_text_d222 rfl ?_
    refine wt_geti hE wt_lf_md_265 (hD 108 (by decide) (by decide)) wt_L108 rfl wp_md_text_d223 ?_
    refine wt_iload_n hE wp_md_text_d226 rfl ?_
    obtain ⟨g9, h⟩ := wt_gd h
    refine wt_iast hE (hD 253 (by decide) (by decide)) wt_L253 g9 wp_md_text_d227 ?_
    refine wt_iconst hE (0 : Int32) wp_md_text_d228 wt_ci_0 ?_
    refine wt_istore_n hE [some (.ref (wt_ad (wt_xw X) 108)), none, some (.int x2), some (.int (0 : Int32)), none] wp_md_text_d229 (by decide) rfl ?_
    exact wt_it_ind (fun z => wt_V X 0 z.2 230 [some (.ref (wt_ad (wt_xw X) 108)), none, some (.int x2), some (.int z.1), none] []) (fun K hK z h => wp_md_text_B230_ok hE hR hD hK h) n ((0 : Int32), (wt_sa (wt_sf σ 108 3 (wt_gf σ 108 6)) 253 (Int32.toNatClampNeg (wt_gf (wt_sf σ 108 3 (wt_gf σ 108 6)) 108 39)) x2)) h
  · have h := wt_in c8 h
    refine wt_aload_n hE wp_md_text_d210 rfl ?_
    refine wt_geti hE wt_lf_md_167 (hD 108 (by decide) (by decide)) wt_L108 rfl wp_md_text_d211 ?_
    refine wt_bipush hE (10 : Int32) wp_md_text_d214 wt_cb_10 ?_
    refine wt_isub hE wp_md_text_d216 ?_
    cases h
    exact wt_iret hE hR wp_md_text_d217
noncomputable def wp_md_text_B157 (n : Nat) (x2 : Int32) (x3 : Int32) (x4 : Int32) (K62 : Int32 × wt_St → Option (Int32 × wt_St)) (σ : wt_St) : Option (Int32 × wt_St) :=
  if (wt_gf σ 108 5) = 0 then
    if x2 < 0 ∨ 12 ≤ Int32.toNatClampNeg x2 then none else
    (wp_md_blanks n (wt_sf (wt_sa σ 274 (Int32.toNatClampNeg x2) x4) 108 4 ((wt_gf (wt_sa σ 274 (Int32.toNatClampNeg x2) x4) 108 4) + x3))).bind fun q22 =>
    K62 ((x2 + (1 : Int32)), q22)
  else
    wp_md_text_B195 n x2 σ
set_option maxRecDepth 100000 in
set_option maxHeartbeats 4000000 in
theorem wp_md_text_B157_ok  {x2 : Int32} {x3 : Int32} {x4 : Int32} {X : wt_X} {n : Nat} {res : Int32 × wt_St} (hE : wt_Ok X prog_13_method_28_code 5 "WornTypeModel" 3 0) (hR : wt_Rt X (some .int) (some res.1) res.2) (hD : ∀ i, 108 ≤ i → i < 321 → wt_dom (wt_xw X) i)  {K62 : Int32 × wt_St → Option (Int32 × wt_St)} (hK62 : ∀ s : Int32 × wt_St, K62 s = some res → wt_V X 0 s.2 62 [some (.ref (wt_ad (wt_xw X) 108)), none, some (.int s.1), none, none] []) {σ : wt_St} (h : wp_md_text_B157 n x2 x3 x4 K62 σ = some res) : wt_V X 0 σ 157 [some (.ref (wt_ad (wt_xw X) 108)), none, some (.int x2), some (.int x3), some (.int x4)] [] := by
  unfold wp_md_text_B157 at h
  refine wt_aload_n hE wp_md_text_d157 rfl ?_
  refine wt_geti hE wt_lf_md_167 (hD 108 (by decide) (by decide)) wt_L108 rfl wp_md_text_d158 ?_
  refine wt_if_eq hE 167 wp_md_text_d161 rfl (fun c20 => ?_) (fun c20 => ?_)
  · have h := wt_ip c20 h
    refine wt_aload_n hE wp_md_text_d167 rfl ?_
    refine wt_getr hE (r := 274) wt_lf_md_97 (hD 108 (by decide) (by decide)) wt_L108 rfl wp_md_text_d168 ?_
    refine wt_iload_n hE wp_md_text_d171 rfl ?_
    refine wt_iload hE wp_md_text_d172 rfl ?_
    obtain ⟨g21, h⟩ := wt_gd h
    refine wt_iast hE (hD 274 (by decide) (by decide)) wt_L274 g21 wp_md_text_d174 ?_
    refine wt_iinc hE (x2 + (1 : Int32)) [some (.ref (wt_ad (wt_xw X) 108)), none, some (.int (x2 + (1 : Int32))), some (.int x3), some (.int x4)] wp_md_text_d175 (by decide) rfl rfl rfl ?_
    refine wt_aload_n hE wp_md_text_d178 rfl ?_
    refine wt_dup hE wp_md_text_d179 rfl ?_
    refine wt_geti hE wt_lf_md_160 (hD 108 (by decide) (by decide)) wt_L108 rfl wp_md_text_d180 ?_
    refine wt_iload_n hE wp_md_text_d183 rfl ?_
    refine wt_iadd hE wp_md_text_d184 ?_
    refine wt_puti hE wt_lf_md_160 (hD 108 (by decide) (by decide)) wt_L108 rfl (fun q hq => by cases hq; rfl) wp_md_text_d185 ?_
    refine wt_aload_n hE wp_md_text_d188 rfl ?_
    obtain ⟨q22, hq22, h⟩ := wt_bi h
    refine wt_callVv hE [] wt_lm_md_173 wt_ya_md_blanks (wp_md_blanks_ok hD hq22) (by omega) (hD 108 (by decide) (by decide)) wt_L108 rfl rfl rfl (Nat.le_of_ble_eq_true rfl) (Nat.zero_le _) wp_md_text_d189 ?_
    refine wt_goto hE 62 wp_md_text_d192 rfl ?_
    refine wt_wk [true, true, true, false, false] rfl ?_
    exact hK62 ((x2 + (1 : Int32)), q22) h
  · have h := wt_in c20 h
    refine wt_goto hE 195 wp_md_text_d164 rfl ?_
    refine wt_wk [true, true, true, false, false] rfl ?_
    exact wp_md_text_B195_ok hE hR hD h
noncomputable def wp_md_text_B84 (n : Nat) (x2 : Int32) (K62 : Int32 × wt_St → Option (Int32 × wt_St)) (σ : wt_St) : Option (Int32 × wt_St) :=
  (wp_md_lettersHere n σ).bind fun q15 =>
  (wp_md_wordOf_192 n 126 q15.1 (wt_gf q15.2 108 28) q15.2).bind fun q16 =>
  if q15.1 = 0 then
    (wp_md_wrong n (1 : Int32) (wt_gf q16.2 108 4) q16.2).bind fun q25 =>
    wp_md_text_B157 n x2 q15.1 q16.1 K62 q25
  else
    if q16.1 = (-1 : Int32) then
      (wp_md_wrong n (2 : Int32) (wt_gf q16.2 108 4) q16.2).bind fun q24 =>
      wp_md_text_B157 n x2 q15.1 q16.1 K62 q24
    else
      if x2 = (12 : Int32) then
        (wp_md_wrong n (3 : Int32) (wt_gf q16.2 108 4) q16.2).bind fun q23 =>
        wp_md_text_B157 n x2 q15.1 q16.1 K62 q23
      else
        wp_md_text_B157 n x2 q15.1 q16.1 K62 q16.2
set_option maxRecDepth 100000 in
set_option maxHeartbeats 4000000 in
theorem wp_md_text_B84_ok  {x2 : Int32} {X : wt_X} {n : Nat} {res : Int32 × wt_St} (hE : wt_Ok X prog_13_method_28_code 5 "WornTypeModel" 3 0) (hR : wt_Rt X (some .int) (some res.1) res.2) (hD : ∀ i, 108 ≤ i → i < 321 → wt_dom (wt_xw X) i)  {K62 : Int32 × wt_St → Option (Int32 × wt_St)} (hK62 : ∀ s : Int32 × wt_St, K62 s = some res → wt_V X 0 s.2 62 [some (.ref (wt_ad (wt_xw X) 108)), none, some (.int s.1), none, none] []) {σ : wt_St} (h : wp_md_text_B84 n x2 K62 σ = some res) : wt_V X 0 σ 84 [some (.ref (wt_ad (wt_xw X) 108)), none, some (.int x2), none, none] [] := by
  unfold wp_md_text_B84 at h
  refine wt_aload_n hE wp_md_text_d84 rfl ?_
  obtain ⟨q15, hq15, h⟩ := wt_bi h
  refine wt_callVi hE [] wt_lm_md_192 wt_ya_md_lettersHere (wp_md_lettersHere_ok hD hq15) (by omega) (hD 108 (by decide) (by decide)) wt_L108 rfl rfl rfl (Nat.le_of_ble_eq_true rfl) (Nat.zero_le _) wp_md_text_d85 (fun hbq15 => ?_)
  refine wt_istore_n hE [some (.ref (wt_ad (wt_xw X) 108)), none, some (.int x2), some (.int q15.1), none] wp_md_text_d88 (by decide) rfl ?_
  refine wt_aload_n hE wp_md_text_d89 rfl ?_
  refine wt_iload_n hE wp_md_text_d90 rfl ?_
  refine wt_aload_n hE wp_md_text_d91 rfl ?_
  refine wt_getr hE (r := 192) wt_lf_md_85 (hD 108 (by decide) (by decide)) wt_L108 rfl wp_md_text_d92 ?_
  refine wt_aload_n hE wp_md_text_d95 rfl ?_
  refine wt_getr hE (r := 126) wt_lf_md_65 (hD 108 (by decide) (by decide)) wt_L108 rfl wp_md_text_d96 ?_
  refine wt_aload_n hE wp_md_text_d99 rfl ?_
  refine wt_geti hE wt_lf_md_259 (hD 108 (by decide) (by decide)) wt_L108 rfl wp_md_text_d100 ?_
  obtain ⟨q16, hq16, h⟩ := wt_bi h
  refine wt_callVi hE [.int q15.1, .ref (wt_ad (wt_xw X) 192), .ref (wt_ad (wt_xw X) 126), .int (wt_gf q15.2 108 28)] wt_lm_md_249 wt_ya_md_wordOf (wp_md_wordOf_192_ok hD (wt_lnE wt_L126) (hD 126 (by decide) (by decide)) hq16) (by omega) (hD 108 (by decide) (by decide)) wt_L108 rfl rfl rfl (Nat.le_of_ble_eq_true rfl) (Nat.zero_le _) wp_md_text_d103 (fun hbq16 => ?_)
  refine wt_istore hE [some (.ref (wt_ad (wt_xw X) 108)), none, some (.int x2), some (.int q15.1), some (.int q16.1)] wp_md_text_d106 (Nat.le_of_ble_eq_true rfl) rfl ?_
  refine wt_iload_n hE wp_md_text_d108 rfl ?_
  refine wt_if_ne hE 124 wp_md_text_d109 rfl (fun c17 => ?_) (fun c17 => ?_)
  · have h := wt_in c17 h
    refine wt_iload hE wp_md_text_d124 rfl ?_
    refine wt_iconst hE (-1 : Int32) wp_md_text_d126 wt_ci_m1 ?_
    refine wt_icmp_ne hE 142 wp_md_text_d127 rfl (fun c18 => ?_) (fun c18 => ?_)
    · have h := wt_in c18 h
      refine wt_iload_n hE wp_md_text_d142 rfl ?_
      refine wt_bipush hE (12 : Int32) wp_md_text_d143 wt_cb_12 ?_
      refine wt_icmp_ne hE 157 wp_md_text_d145 rfl (fun c19 => ?_) (fun c19 => ?_)
      · have h := wt_in c19 h
        exact wp_md_text_B157_ok hE hR hD hK62 h
      · have h := wt_ip c19 h
        refine wt_aload_n hE wp_md_text_d148 rfl ?_
        refine wt_iconst hE (3 : Int32) wp_md_text_d149 wt_ci_3 ?_
        refine wt_aload_n hE wp_md_text_d150 rfl ?_
        refine wt_geti hE wt_lf_md_160 (hD 108 (by decide) (by decide)) wt_L108 rfl wp_md_text_d151 ?_
        obtain ⟨q23, hq23, h⟩ := wt_bi h
        refine wt_callVv hE [.int (3 : Int32), .int (wt_gf q16.2 108 4)] wt_lm_md_180 wt_ya_md_wrong (wp_md_wrong_ok hD hq23) (by omega) (hD 108 (by decide) (by decide)) wt_L108 rfl rfl rfl (Nat.le_of_ble_eq_true rfl) (Nat.zero_le _) wp_md_text_d154 ?_
        exact wp_md_text_B157_ok hE hR hD hK62 h
    · have h := wt_ip c18 h
      refine wt_aload_n hE wp_md_text_d130 rfl ?_
      refine wt_iconst hE (2 : Int32) wp_md_text_d131 wt_ci_2 ?_
      refine wt_aload_n hE wp_md_text_d132 rfl ?_
      refine wt_geti hE wt_lf_md_160 (hD 108 (by decide) (by decide)) wt_L108 rfl wp_md_text_d133 ?_
      obtain ⟨q24, hq24, h⟩ := wt_bi h
      refine wt_callVv hE [.int (2 : Int32), .int (wt_gf q16.2 108 4)] wt_lm_md_180 wt_ya_md_wrong (wp_md_wrong_ok hD hq24) (by omega) (hD 108 (by decide) (by decide)) wt_L108 rfl rfl rfl (Nat.le_of_ble_eq_true rfl) (Nat.zero_le _) wp_md_text_d136 ?_
      refine wt_goto hE 157 wp_md_text_d139 rfl ?_
      exact wp_md_text_B157_ok hE hR hD hK62 h
  · have h := wt_ip c17 h
    refine wt_aload_n hE wp_md_text_d112 rfl ?_
    refine wt_iconst hE (1 : Int32) wp_md_text_d113 wt_ci_1 ?_
    refine wt_aload_n hE wp_md_text_d114 rfl ?_
    refine wt_geti hE wt_lf_md_160 (hD 108 (by decide) (by decide)) wt_L108 rfl wp_md_text_d115 ?_
    obtain ⟨q25, hq25, h⟩ := wt_bi h
    refine wt_callVv hE [.int (1 : Int32), .int (wt_gf q16.2 108 4)] wt_lm_md_180 wt_ya_md_wrong (wp_md_wrong_ok hD hq25) (by omega) (hD 108 (by decide) (by decide)) wt_L108 rfl rfl rfl (Nat.le_of_ble_eq_true rfl) (Nat.zero_le _) wp_md_text_d118 ?_
    refine wt_goto hE 157 wp_md_text_d121 rfl ?_
    exact wp_md_text_B157_ok hE hR hD hK62 h
noncomputable def wp_md_text_B62 (n : Nat) (K62 : Int32 × wt_St → Option (Int32 × wt_St)) (s : Int32 × wt_St) : Option (Int32 × wt_St) :=
  if (wt_gf s.2 108 5) = 0 then
    if (wt_gf s.2 108 4) < (wt_gf s.2 108 2) then
      wp_md_text_B84 n s.1 K62 s.2
    else
      if s.1 = 0 then
        wp_md_text_B84 n s.1 K62 s.2
      else
        wp_md_text_B195 n s.1 s.2
  else
    wp_md_text_B195 n s.1 s.2
set_option maxRecDepth 100000 in
set_option maxHeartbeats 4000000 in
theorem wp_md_text_B62_ok  {X : wt_X} {n : Nat} {res : Int32 × wt_St} (hE : wt_Ok X prog_13_method_28_code 5 "WornTypeModel" 3 0) (hR : wt_Rt X (some .int) (some res.1) res.2) (hD : ∀ i, 108 ≤ i → i < 321 → wt_dom (wt_xw X) i)  {K62 : Int32 × wt_St → Option (Int32 × wt_St)} (hK62 : ∀ s : Int32 × wt_St, K62 s = some res → wt_V X 0 s.2 62 [some (.ref (wt_ad (wt_xw X) 108)), none, some (.int s.1), none, none] []) {s : Int32 × wt_St} (h : wp_md_text_B62 n K62 s = some res) : wt_V X 0 s.2 62 [some (.ref (wt_ad (wt_xw X) 108)), none, some (.int s.1), none, none] [] := by
  unfold wp_md_text_B62 at h
  refine wt_aload_n hE wp_md_text_d62 rfl ?_
  refine wt_geti hE wt_lf_md_167 (hD 108 (by decide) (by decide)) wt_L108 rfl wp_md_text_d63 ?_
  refine wt_if_ne hE 195 wp_md_text_d66 rfl (fun c7 => ?_) (fun c7 => ?_)
  · have h := wt_in c7 h
    exact wp_md_text_B195_ok hE hR hD h
  · have h := wt_ip c7 h
    refine wt_aload_n hE wp_md_text_d69 rfl ?_
    refine wt_geti hE wt_lf_md_160 (hD 108 (by decide) (by decide)) wt_L108 rfl wp_md_text_d70 ?_
    refine wt_aload_n hE wp_md_text_d73 rfl ?_
    refine wt_geti hE wt_lf_md_157 (hD 108 (by decide) (by decide)) wt_L108 rfl wp_md_text_d74 ?_
    refine wt_icmp_lt hE 84 wp_md_text_d77 rfl (fun c14 => ?_) (fun c14 => ?_)
    · have h := wt_ip c14 h
      exact wp_md_text_B84_ok hE hR hD hK62 h
    · have h := wt_in c14 h
      refine wt_iload_n hE wp_md_text_d80 rfl ?_
      refine wt_if_ne hE 195 wp_md_text_d81 rfl (fun c26 => ?_) (fun c26 => ?_)
      · have h := wt_in c26 h
        exact wp_md_text_B195_ok hE hR hD h
      · have h := wt_ip c26 h
        exact wp_md_text_B84_ok hE hR hD hK62 h
noncomputable def wp_md_text_B30 (n : Nat) (x1 : Int32) (y1 : Int32) (σ : wt_St) : Option (Int32 × wt_St) :=
  (wp_md_bad n y1 (1 : Int32) σ).bind fun q3 =>
  if q3.1 = 0 then
    (wp_md_starts n x1 q3.2).bind fun q5 =>
    if (wt_gf (wt_sf q5 108 3 (-1 : Int32)) 108 39) = (8 : Int32) then
      some ((-1 : Int32), (wt_sf q5 108 3 (-1 : Int32)))
    else
      wt_it (wp_md_text_B62 n) n ((0 : Int32), (wt_sf q5 108 3 (-1 : Int32)))
  else
    some ((0 : Int32), q3.2)
set_option maxRecDepth 100000 in
set_option maxHeartbeats 4000000 in
theorem wp_md_text_B30_ok  {x1 : Int32} {X : wt_X} {n : Nat} {res : Int32 × wt_St} (hE : wt_Ok X prog_13_method_28_code 5 "WornTypeModel" 3 0) (hR : wt_Rt X (some .int) (some res.1) res.2) (hD : ∀ i, 108 ≤ i → i < 321 → wt_dom (wt_xw X) i)  {σ : wt_St} {y1 : Int32} (h : wp_md_text_B30 n x1 y1 σ = some res) : wt_V X 0 σ 30 [some (.ref (wt_ad (wt_xw X) 108)), some (.int x1), none, none, none] [.int y1, .ref (wt_ad (wt_xw X) 108)] := by
  unfold wp_md_text_B30 at h
  refine wt_iconst hE (1 : Int32) wp_md_text_d30 wt_ci_1 ?_
  obtain ⟨q3, hq3, h⟩ := wt_bi h
  refine wt_callVi hE [.int y1, .int (1 : Int32)] wt_lm_md_230 wt_ya_md_bad (wp_md_bad_ok hD hq3) (by omega) (hD 108 (by decide) (by decide)) wt_L108 rfl rfl rfl (Nat.le_of_ble_eq_true rfl) (Nat.zero_le _) wp_md_text_d31 (fun hbq3 => ?_)
  refine wt_if_eq hE 39 wp_md_text_d34 rfl (fun c4 => ?_) (fun c4 => ?_)
  · have h := wt_ip c4 h
    refine wt_aload_n hE wp_md_text_d39 rfl ?_
    refine wt_iload_n hE wp_md_text_d40 rfl ?_
    obtain ⟨q5, hq5, h⟩ := wt_bi h
    refine wt_callVv hE [.int x1] wt_lm_md_234 wt_ya_md_starts (wp_md_starts_ok hD hq5) (by omega) (hD 108 (by decide) (by decide)) wt_L108 rfl rfl rfl (Nat.le_of_ble_eq_true rfl) (Nat.zero_le _) wp_md_text_d41 ?_
    refine wt_aload_n hE wp_md_text_d44 rfl ?_
    refine wt_iconst hE (-1 : Int32) wp_md_text_d45 wt_ci_m1 ?_
    refine wt_puti hE wt_lf_md_9 (hD 108 (by decide) (by decide)) wt_L108 rfl (fun q hq => by cases hq; rfl) wp_md_text_d46 ?_
    refine wt_aload_n hE wp_md_text_d49 rfl ?_
    refine wt_geti hE wt_lf_md_265 (hD 108 (by decide) (by decide)) wt_L108 rfl wp_md_text_d50 ?_
    refine wt_bipush hE (8 : Int32) wp_md_text_d53 wt_cb_8 ?_
    refine wt_icmp_ne hE 60 wp_md_text_d55 rfl (fun c6 => ?_) (fun c6 => ?_)
    · have h := wt_in c6 h
      refine wt_iconst hE (0 : Int32) wp_md_text_d60 wt_ci_0 ?_
      refine wt_istore_n hE [some (.ref (wt_ad (wt_xw X) 108)), some (.int x1), some (.int (0 : Int32)), none, none] wp_md_text_d61 (by decide) rfl ?_
      refine wt_wk [true, false, true, true, true] rfl ?_
      exact wt_it_ind (fun z => wt_V X 0 z.2 62 [some (.ref (wt_ad (wt_xw X) 108)), none, some (.int z.1), none, none] []) (fun K hK z h => wp_md_text_B62_ok hE hR hD hK h) n ((0 : Int32), (wt_sf q5 108 3 (-1 : Int32))) h
    · have h := wt_ip c6 h
      refine wt_iconst hE (-1 : Int32) wp_md_text_d58 wt_ci_m1 ?_
      cases h
      exact wt_iret hE hR wp_md_text_d59
  · have h := wt_in c4 h
    refine wt_iconst hE (0 : Int32) wp_md_text_d37 wt_ci_0 ?_
    cases h
    exact wt_iret hE hR wp_md_text_d38
noncomputable def wp_md_text_B25 (n : Nat) (x1 : Int32) (σ : wt_St) : Option (Int32 × wt_St) :=
  wp_md_text_B30 n x1 (1 : Int32) σ
set_option maxRecDepth 100000 in
set_option maxHeartbeats 4000000 in
theorem wp_md_text_B25_ok  {x1 : Int32} {X : wt_X} {n : Nat} {res : Int32 × wt_St} (hE : wt_Ok X prog_13_method_28_code 5 "WornTypeModel" 3 0) (hR : wt_Rt X (some .int) (some res.1) res.2) (hD : ∀ i, 108 ≤ i → i < 321 → wt_dom (wt_xw X) i)  {σ : wt_St} (h : wp_md_text_B25 n x1 σ = some res) : wt_V X 0 σ 25 [some (.ref (wt_ad (wt_xw X) 108)), some (.int x1), none, none, none] [.ref (wt_ad (wt_xw X) 108)] := by
  unfold wp_md_text_B25 at h
  refine wt_iconst hE (1 : Int32) wp_md_text_d25 wt_ci_1 ?_
  refine wt_goto hE 30 wp_md_text_d26 rfl ?_
  exact wp_md_text_B30_ok hE hR hD h
noncomputable def wp_md_text (n : Nat) (x1 : Int32) (σ : wt_St) : Option (Int32 × wt_St) :=
  (wp_md_in n x1 (0 : Int32) (wt_gf (wt_sf σ 108 0 (0 : Int32)) 108 1) (wt_sf σ 108 0 (0 : Int32))).bind fun q1 =>
  if q1.1 = 0 then
    wp_md_text_B25 n x1 q1.2
  else
    if x1 ≤ (200 : Int32) then
      wp_md_text_B30 n x1 (0 : Int32) q1.2
    else
      wp_md_text_B25 n x1 q1.2
set_option maxRecDepth 100000 in
set_option maxHeartbeats 4000000 in
theorem wp_md_text_ok {l : Launch} {w : wt_E} {n : Nat} {x1 : Int32} (hD : ∀ i, 108 ≤ i → i < 321 → wt_dom w i) {σ : wt_St} {q : Int32 × wt_St} (h : wp_md_text n x1 σ = some q) : wt_Ctr l w wt_y_md_text prog_13_method_28_code 5 (some .int) 3 [.ref (wt_ad w 108), .int x1] σ (some q.1) q.2 := by
  refine wt_ctr wt_pl_md_text rfl (Nat.le_of_ble_eq_true rfl) [some (.ref (wt_ad w 108)), some (.int x1), none, none, none] rfl ?_
  intro X hXl hXw hE hR
  subst hXl
  subst hXw
  have hE : wt_Ok X prog_13_method_28_code 5 "WornTypeModel" 3 0 := hE
  unfold wp_md_text at h
  refine wt_aload_n hE wp_md_text_d0 rfl ?_
  refine wt_iconst hE (0 : Int32) wp_md_text_d1 wt_ci_0 ?_
  refine wt_puti hE wt_lf_md_151 (hD 108 (by decide) (by decide)) wt_L108 rfl (fun q hq => by cases hq; rfl) wp_md_text_d2 ?_
  refine wt_aload_n hE wp_md_text_d5 rfl ?_
  refine wt_iload_n hE wp_md_text_d6 rfl ?_
  refine wt_iconst hE (0 : Int32) wp_md_text_d7 wt_ci_0 ?_
  refine wt_aload_n hE wp_md_text_d8 rfl ?_
  refine wt_geti hE wt_lf_md_154 (hD 108 (by decide) (by decide)) wt_L108 rfl wp_md_text_d9 ?_
  obtain ⟨q1, hq1, h⟩ := wt_bi h
  refine wt_callSi hE [.int x1, .int (0 : Int32), .int (wt_gf (wt_sf σ 108 0 (0 : Int32)) 108 1)] wt_lm_md_185 wt_ya_md_in (wp_md_in_ok hq1) (by omega) rfl rfl (Nat.le_of_ble_eq_true rfl) (Nat.zero_le _) wp_md_text_d12 (fun hbq1 => ?_)
  refine wt_if_eq hE 25 wp_md_text_d15 rfl (fun c2 => ?_) (fun c2 => ?_)
  · have h := wt_ip c2 h
    exact wp_md_text_B25_ok hE hR hD h
  · have h := wt_in c2 h
    refine wt_iload_n hE wp_md_text_d18 rfl ?_
    refine wt_sipush hE (200 : Int32) wp_md_text_d19 wt_cs_200 ?_
    refine wt_icmp_le hE 29 wp_md_text_d22 rfl (fun c27 => ?_) (fun c27 => ?_)
    · have h := wt_ip c27 h
      refine wt_iconst hE (0 : Int32) wp_md_text_d29 wt_ci_0 ?_
      exact wp_md_text_B30_ok hE hR hD h
    · have h := wt_in c27 h
      exact wp_md_text_B25_ok hE hR hD h
def wb19m9_prog_13_method_91_code_r6 : List (List Nat) := [28, 172] :: []
def wb19m9_prog_13_method_91_code_r5 : List (List Nat) := [180, 0, 59, 21, 5, 46, 79, 132, 5, 1, 167, 255, 216, 21, 4, 153, 0, 7, 29, 167, 0, 4, 28, 61, 132, 3, 1, 167, 255, 120] :: wb19m9_prog_13_method_91_code_r6
def wb19m9_prog_13_method_91_code_r4 : List (List Nat) := [17, 1, 82, 162, 0, 38, 42, 180, 0, 59, 21, 5, 42, 180, 0, 59, 21, 5, 46, 7, 160, 0, 7, 2, 167, 0, 10, 42] :: wb19m9_prog_13_method_91_code_r5
def wb19m9_prog_13_method_91_code_r3 : List (List Nat) := [167, 0, 17, 42, 21, 5, 182, 1, 54, 42, 27, 7, 182, 1, 66, 54, 4, 132, 5, 1, 167, 255, 213, 3, 54, 5, 21, 5] :: wb19m9_prog_13_method_91_code_r4
def wb19m9_prog_13_method_91_code_r2 : List (List Nat) := [54, 4, 3, 54, 5, 21, 5, 42, 180, 1, 9, 162, 0, 40, 21, 4, 153, 0, 35, 29, 21, 5, 122, 4, 126, 154, 0, 6] :: wb19m9_prog_13_method_91_code_r3
def wb19m9_prog_13_method_91_code_r1 : List (List Nat) := [61, 3, 62, 29, 4, 42, 180, 1, 9, 120, 162, 0, 132, 29, 184, 1, 128, 28, 184, 1, 128, 163, 0, 6, 167, 0, 112, 4] :: wb19m9_prog_13_method_91_code_r2
def wb19m9_prog_13_method_91_code_r0 : List (List Nat) := [42, 3, 181, 0, 151, 42, 27, 184, 1, 57, 154, 0, 7, 4, 167, 0, 4, 3, 4, 182, 0, 230, 153, 0, 5, 3, 172, 3] :: wb19m9_prog_13_method_91_code_r1
set_option maxRecDepth 100000 in
theorem wb19m9_prog_13_method_91_code_c0 : wt_cs prog_13_method_91_code 0 wb19m9_prog_13_method_91_code_r0 := wt_cs_of (by decide +kernel)
theorem wb19m9_prog_13_method_91_code_c1 : wt_cs prog_13_method_91_code 28 wb19m9_prog_13_method_91_code_r1 := wt_cs_tl (m := 28) wb19m9_prog_13_method_91_code_c0 rfl rfl
theorem wb19m9_prog_13_method_91_code_c2 : wt_cs prog_13_method_91_code 56 wb19m9_prog_13_method_91_code_r2 := wt_cs_tl (m := 28) wb19m9_prog_13_method_91_code_c1 rfl rfl
theorem wb19m9_prog_13_method_91_code_c3 : wt_cs prog_13_method_91_code 84 wb19m9_prog_13_method_91_code_r3 := wt_cs_tl (m := 28) wb19m9_prog_13_method_91_code_c2 rfl rfl
theorem wb19m9_prog_13_method_91_code_c4 : wt_cs prog_13_method_91_code 112 wb19m9_prog_13_method_91_code_r4 := wt_cs_tl (m := 28) wb19m9_prog_13_method_91_code_c3 rfl rfl
theorem wb19m9_prog_13_method_91_code_c5 : wt_cs prog_13_method_91_code 140 wb19m9_prog_13_method_91_code_r5 := wt_cs_tl (m := 28) wb19m9_prog_13_method_91_code_c4 rfl rfl
theorem wb19m9_prog_13_method_91_code_c6 : wt_cs prog_13_method_91_code 170 wb19m9_prog_13_method_91_code_r6 := wt_cs_tl (m := 30) wb19m9_prog_13_method_91_code_c5 rfl rfl
theorem wp_md_together_d0 : decode prog_13_method_91_code 0 = .ok (.aload_n 0, 1) := wt_op42 wb19m9_prog_13_method_91_code_c0 0 rfl rfl
theorem wp_md_together_d1 : decode prog_13_method_91_code 1 = .ok (.iconst 0, 1) := wt_op3 wb19m9_prog_13_method_91_code_c0 1 rfl rfl
theorem wp_md_together_d2 : decode prog_13_method_91_code 2 = .ok (.putfield 151, 3) := wt_op181 wb19m9_prog_13_method_91_code_c0 2 rfl rfl rfl
theorem wp_md_together_d5 : decode prog_13_method_91_code 5 = .ok (.aload_n 0, 1) := wt_op42 wb19m9_prog_13_method_91_code_c0 5 rfl rfl
theorem wp_md_together_d6 : decode prog_13_method_91_code 6 = .ok (.iload_n 1, 1) := wt_op27 wb19m9_prog_13_method_91_code_c0 6 rfl rfl
theorem wp_md_together_d7 : decode prog_13_method_91_code 7 = .ok (.invokestatic 313, 3) := wt_op184 wb19m9_prog_13_method_91_code_c0 7 rfl rfl rfl
theorem wp_md_together_d10 : decode prog_13_method_91_code 10 = .ok (.ifCond .ne 7, 3) := wt_op154 wb19m9_prog_13_method_91_code_c0 10 rfl rfl rfl
theorem wp_md_together_d13 : decode prog_13_method_91_code 13 = .ok (.iconst 1, 1) := wt_op4 wb19m9_prog_13_method_91_code_c0 13 rfl rfl
theorem wp_md_together_d14 : decode prog_13_method_91_code 14 = .ok (.goto 4, 3) := wt_op167 wb19m9_prog_13_method_91_code_c0 14 rfl rfl rfl
theorem wp_md_together_d17 : decode prog_13_method_91_code 17 = .ok (.iconst 0, 1) := wt_op3 wb19m9_prog_13_method_91_code_c0 17 rfl rfl
theorem wp_md_together_d18 : decode prog_13_method_91_code 18 = .ok (.iconst 1, 1) := wt_op4 wb19m9_prog_13_method_91_code_c0 18 rfl rfl
theorem wp_md_together_d19 : decode prog_13_method_91_code 19 = .ok (.invokevirtual 230, 3) := wt_op182 wb19m9_prog_13_method_91_code_c0 19 rfl rfl rfl
theorem wp_md_together_d22 : decode prog_13_method_91_code 22 = .ok (.ifCond .eq 5, 3) := wt_op153 wb19m9_prog_13_method_91_code_c0 22 rfl rfl rfl
theorem wp_md_together_d25 : decode prog_13_method_91_code 25 = .ok (.iconst 0, 1) := wt_op3 wb19m9_prog_13_method_91_code_c0 25 rfl rfl
theorem wp_md_together_d26 : decode prog_13_method_91_code 26 = .ok (.ireturn, 1) := wt_op172 wb19m9_prog_13_method_91_code_c0 26 rfl rfl
theorem wp_md_together_d27 : decode prog_13_method_91_code 27 = .ok (.iconst 0, 1) := wt_op3 wb19m9_prog_13_method_91_code_c0 27 rfl rfl
theorem wp_md_together_d28 : decode prog_13_method_91_code 28 = .ok (.istore_n 2, 1) := wt_op61 wb19m9_prog_13_method_91_code_c1 0 rfl rfl
theorem wp_md_together_d29 : decode prog_13_method_91_code 29 = .ok (.iconst 0, 1) := wt_op3 wb19m9_prog_13_method_91_code_c1 1 rfl rfl
theorem wp_md_together_d30 : decode prog_13_method_91_code 30 = .ok (.istore_n 3, 1) := wt_op62 wb19m9_prog_13_method_91_code_c1 2 rfl rfl
theorem wp_md_together_d31 : decode prog_13_method_91_code 31 = .ok (.iload_n 3, 1) := wt_op29 wb19m9_prog_13_method_91_code_c1 3 rfl rfl
theorem wp_md_together_d32 : decode prog_13_method_91_code 32 = .ok (.iconst 1, 1) := wt_op4 wb19m9_prog_13_method_91_code_c1 4 rfl rfl
theorem wp_md_together_d33 : decode prog_13_method_91_code 33 = .ok (.aload_n 0, 1) := wt_op42 wb19m9_prog_13_method_91_code_c1 5 rfl rfl
theorem wp_md_together_d34 : decode prog_13_method_91_code 34 = .ok (.getfield 265, 3) := wt_op180 wb19m9_prog_13_method_91_code_c1 6 rfl rfl rfl
theorem wp_md_together_d37 : decode prog_13_method_91_code 37 = .ok (.ishl, 1) := wt_op120 wb19m9_prog_13_method_91_code_c1 9 rfl rfl
theorem wp_md_together_d38 : decode prog_13_method_91_code 38 = .ok (.if_icmp .ge 132, 3) := wt_op162 wb19m9_prog_13_method_91_code_c1 10 rfl rfl rfl
theorem wp_md_together_d41 : decode prog_13_method_91_code 41 = .ok (.iload_n 3, 1) := wt_op29 wb19m9_prog_13_method_91_code_c1 13 rfl rfl
theorem wp_md_together_d42 : decode prog_13_method_91_code 42 = .ok (.invokestatic 384, 3) := wt_op184 wb19m9_prog_13_method_91_code_c1 14 rfl rfl rfl
theorem wp_md_together_d45 : decode prog_13_method_91_code 45 = .ok (.iload_n 2, 1) := wt_op28 wb19m9_prog_13_method_91_code_c1 17 rfl rfl
theorem wp_md_together_d46 : decode prog_13_method_91_code 46 = .ok (.invokestatic 384, 3) := wt_op184 wb19m9_prog_13_method_91_code_c1 18 rfl rfl rfl
theorem wp_md_together_d49 : decode prog_13_method_91_code 49 = .ok (.if_icmp .gt 6, 3) := wt_op163 wb19m9_prog_13_method_91_code_c1 21 rfl rfl rfl
theorem wp_md_together_d52 : decode prog_13_method_91_code 52 = .ok (.goto 112, 3) := wt_op167 wb19m9_prog_13_method_91_code_c1 24 rfl rfl rfl
theorem wp_md_together_d55 : decode prog_13_method_91_code 55 = .ok (.iconst 1, 1) := wt_op4 wb19m9_prog_13_method_91_code_c1 27 rfl rfl
theorem wp_md_together_d56 : decode prog_13_method_91_code 56 = .ok (.istore 4, 2) := wt_op54 wb19m9_prog_13_method_91_code_c2 0 rfl rfl
theorem wp_md_together_d58 : decode prog_13_method_91_code 58 = .ok (.iconst 0, 1) := wt_op3 wb19m9_prog_13_method_91_code_c2 2 rfl rfl
theorem wp_md_together_d59 : decode prog_13_method_91_code 59 = .ok (.istore 5, 2) := wt_op54 wb19m9_prog_13_method_91_code_c2 3 rfl rfl
theorem wp_md_together_d61 : decode prog_13_method_91_code 61 = .ok (.iload 5, 2) := wt_op21 wb19m9_prog_13_method_91_code_c2 5 rfl rfl
theorem wp_md_together_d63 : decode prog_13_method_91_code 63 = .ok (.aload_n 0, 1) := wt_op42 wb19m9_prog_13_method_91_code_c2 7 rfl rfl
theorem wp_md_together_d64 : decode prog_13_method_91_code 64 = .ok (.getfield 265, 3) := wt_op180 wb19m9_prog_13_method_91_code_c2 8 rfl rfl rfl
theorem wp_md_together_d67 : decode prog_13_method_91_code 67 = .ok (.if_icmp .ge 40, 3) := wt_op162 wb19m9_prog_13_method_91_code_c2 11 rfl rfl rfl
theorem wp_md_together_d70 : decode prog_13_method_91_code 70 = .ok (.iload 4, 2) := wt_op21 wb19m9_prog_13_method_91_code_c2 14 rfl rfl
theorem wp_md_together_d72 : decode prog_13_method_91_code 72 = .ok (.ifCond .eq 35, 3) := wt_op153 wb19m9_prog_13_method_91_code_c2 16 rfl rfl rfl
theorem wp_md_together_d75 : decode prog_13_method_91_code 75 = .ok (.iload_n 3, 1) := wt_op29 wb19m9_prog_13_method_91_code_c2 19 rfl rfl
theorem wp_md_together_d76 : decode prog_13_method_91_code 76 = .ok (.iload 5, 2) := wt_op21 wb19m9_prog_13_method_91_code_c2 20 rfl rfl
theorem wp_md_together_d78 : decode prog_13_method_91_code 78 = .ok (.ishr, 1) := wt_op122 wb19m9_prog_13_method_91_code_c2 22 rfl rfl
theorem wp_md_together_d79 : decode prog_13_method_91_code 79 = .ok (.iconst 1, 1) := wt_op4 wb19m9_prog_13_method_91_code_c2 23 rfl rfl
theorem wp_md_together_d80 : decode prog_13_method_91_code 80 = .ok (.iand, 1) := wt_op126 wb19m9_prog_13_method_91_code_c2 24 rfl rfl
theorem wp_md_together_d81 : decode prog_13_method_91_code 81 = .ok (.ifCond .ne 6, 3) := wt_op154 wb19m9_prog_13_method_91_code_c2 25 rfl rfl rfl
theorem wp_md_together_d84 : decode prog_13_method_91_code 84 = .ok (.goto 17, 3) := wt_op167 wb19m9_prog_13_method_91_code_c3 0 rfl rfl rfl
theorem wp_md_together_d87 : decode prog_13_method_91_code 87 = .ok (.aload_n 0, 1) := wt_op42 wb19m9_prog_13_method_91_code_c3 3 rfl rfl
theorem wp_md_together_d88 : decode prog_13_method_91_code 88 = .ok (.iload 5, 2) := wt_op21 wb19m9_prog_13_method_91_code_c3 4 rfl rfl
theorem wp_md_together_d90 : decode prog_13_method_91_code 90 = .ok (.invokevirtual 310, 3) := wt_op182 wb19m9_prog_13_method_91_code_c3 6 rfl rfl rfl
theorem wp_md_together_d93 : decode prog_13_method_91_code 93 = .ok (.aload_n 0, 1) := wt_op42 wb19m9_prog_13_method_91_code_c3 9 rfl rfl
theorem wp_md_together_d94 : decode prog_13_method_91_code 94 = .ok (.iload_n 1, 1) := wt_op27 wb19m9_prog_13_method_91_code_c3 10 rfl rfl
theorem wp_md_together_d95 : decode prog_13_method_91_code 95 = .ok (.iconst 4, 1) := wt_op7 wb19m9_prog_13_method_91_code_c3 11 rfl rfl
theorem wp_md_together_d96 : decode prog_13_method_91_code 96 = .ok (.invokevirtual 322, 3) := wt_op182 wb19m9_prog_13_method_91_code_c3 12 rfl rfl rfl
theorem wp_md_together_d99 : decode prog_13_method_91_code 99 = .ok (.istore 4, 2) := wt_op54 wb19m9_prog_13_method_91_code_c3 15 rfl rfl
theorem wp_md_together_d101 : decode prog_13_method_91_code 101 = .ok (.iinc 5 1, 3) := wt_op132 wb19m9_prog_13_method_91_code_c3 17 rfl rfl rfl
theorem wp_md_together_d104 : decode prog_13_method_91_code 104 = .ok (.goto (-43), 3) := wt_op167 wb19m9_prog_13_method_91_code_c3 20 rfl rfl rfl
theorem wp_md_together_d107 : decode prog_13_method_91_code 107 = .ok (.iconst 0, 1) := wt_op3 wb19m9_prog_13_method_91_code_c3 23 rfl rfl
theorem wp_md_together_d108 : decode prog_13_method_91_code 108 = .ok (.istore 5, 2) := wt_op54 wb19m9_prog_13_method_91_code_c3 24 rfl rfl
theorem wp_md_together_d110 : decode prog_13_method_91_code 110 = .ok (.iload 5, 2) := wt_op21 wb19m9_prog_13_method_91_code_c3 26 rfl rfl
theorem wp_md_together_d112 : decode prog_13_method_91_code 112 = .ok (.sipush 338, 3) := wt_op17 wb19m9_prog_13_method_91_code_c4 0 rfl rfl rfl
theorem wp_md_together_d115 : decode prog_13_method_91_code 115 = .ok (.if_icmp .ge 38, 3) := wt_op162 wb19m9_prog_13_method_91_code_c4 3 rfl rfl rfl
theorem wp_md_together_d118 : decode prog_13_method_91_code 118 = .ok (.aload_n 0, 1) := wt_op42 wb19m9_prog_13_method_91_code_c4 6 rfl rfl
theorem wp_md_together_d119 : decode prog_13_method_91_code 119 = .ok (.getfield 59, 3) := wt_op180 wb19m9_prog_13_method_91_code_c4 7 rfl rfl rfl
theorem wp_md_together_d122 : decode prog_13_method_91_code 122 = .ok (.iload 5, 2) := wt_op21 wb19m9_prog_13_method_91_code_c4 10 rfl rfl
theorem wp_md_together_d124 : decode prog_13_method_91_code 124 = .ok (.aload_n 0, 1) := wt_op42 wb19m9_prog_13_method_91_code_c4 12 rfl rfl
theorem wp_md_together_d125 : decode prog_13_method_91_code 125 = .ok (.getfield 59, 3) := wt_op180 wb19m9_prog_13_method_91_code_c4 13 rfl rfl rfl
theorem wp_md_together_d128 : decode prog_13_method_91_code 128 = .ok (.iload 5, 2) := wt_op21 wb19m9_prog_13_method_91_code_c4 16 rfl rfl
theorem wp_md_together_d130 : decode prog_13_method_91_code 130 = .ok (.iaload, 1) := wt_op46 wb19m9_prog_13_method_91_code_c4 18 rfl rfl
theorem wp_md_together_d131 : decode prog_13_method_91_code 131 = .ok (.iconst 4, 1) := wt_op7 wb19m9_prog_13_method_91_code_c4 19 rfl rfl
theorem wp_md_together_d132 : decode prog_13_method_91_code 132 = .ok (.if_icmp .ne 7, 3) := wt_op160 wb19m9_prog_13_method_91_code_c4 20 rfl rfl rfl
theorem wp_md_together_d135 : decode prog_13_method_91_code 135 = .ok (.iconst (-1), 1) := wt_op2 wb19m9_prog_13_method_91_code_c4 23 rfl rfl
theorem wp_md_together_d136 : decode prog_13_method_91_code 136 = .ok (.goto 10, 3) := wt_op167 wb19m9_prog_13_method_91_code_c4 24 rfl rfl rfl
theorem wp_md_together_d139 : decode prog_13_method_91_code 139 = .ok (.aload_n 0, 1) := wt_op42 wb19m9_prog_13_method_91_code_c4 27 rfl rfl
theorem wp_md_together_d140 : decode prog_13_method_91_code 140 = .ok (.getfield 59, 3) := wt_op180 wb19m9_prog_13_method_91_code_c5 0 rfl rfl rfl
theorem wp_md_together_d143 : decode prog_13_method_91_code 143 = .ok (.iload 5, 2) := wt_op21 wb19m9_prog_13_method_91_code_c5 3 rfl rfl
theorem wp_md_together_d145 : decode prog_13_method_91_code 145 = .ok (.iaload, 1) := wt_op46 wb19m9_prog_13_method_91_code_c5 5 rfl rfl
theorem wp_md_together_d146 : decode prog_13_method_91_code 146 = .ok (.iastore, 1) := wt_op79 wb19m9_prog_13_method_91_code_c5 6 rfl rfl
theorem wp_md_together_d147 : decode prog_13_method_91_code 147 = .ok (.iinc 5 1, 3) := wt_op132 wb19m9_prog_13_method_91_code_c5 7 rfl rfl rfl
theorem wp_md_together_d150 : decode prog_13_method_91_code 150 = .ok (.goto (-40), 3) := wt_op167 wb19m9_prog_13_method_91_code_c5 10 rfl rfl rfl
theorem wp_md_together_d153 : decode prog_13_method_91_code 153 = .ok (.iload 4, 2) := wt_op21 wb19m9_prog_13_method_91_code_c5 13 rfl rfl
theorem wp_md_together_d155 : decode prog_13_method_91_code 155 = .ok (.ifCond .eq 7, 3) := wt_op153 wb19m9_prog_13_method_91_code_c5 15 rfl rfl rfl
theorem wp_md_together_d158 : decode prog_13_method_91_code 158 = .ok (.iload_n 3, 1) := wt_op29 wb19m9_prog_13_method_91_code_c5 18 rfl rfl
theorem wp_md_together_d159 : decode prog_13_method_91_code 159 = .ok (.goto 4, 3) := wt_op167 wb19m9_prog_13_method_91_code_c5 19 rfl rfl rfl
theorem wp_md_together_d162 : decode prog_13_method_91_code 162 = .ok (.iload_n 2, 1) := wt_op28 wb19m9_prog_13_method_91_code_c5 22 rfl rfl
theorem wp_md_together_d163 : decode prog_13_method_91_code 163 = .ok (.istore_n 2, 1) := wt_op61 wb19m9_prog_13_method_91_code_c5 23 rfl rfl
theorem wp_md_together_d164 : decode prog_13_method_91_code 164 = .ok (.iinc 3 1, 3) := wt_op132 wb19m9_prog_13_method_91_code_c5 24 rfl rfl rfl
theorem wp_md_together_d167 : decode prog_13_method_91_code 167 = .ok (.goto (-136), 3) := wt_op167 wb19m9_prog_13_method_91_code_c5 27 rfl rfl rfl
theorem wp_md_together_d170 : decode prog_13_method_91_code 170 = .ok (.iload_n 2, 1) := wt_op28 wb19m9_prog_13_method_91_code_c6 0 rfl rfl
theorem wp_md_together_d171 : decode prog_13_method_91_code 171 = .ok (.ireturn, 1) := wt_op172 wb19m9_prog_13_method_91_code_c6 1 rfl rfl
noncomputable def wp_md_together_B164 (n : Nat) (x1 : Int32) (x2 : Int32) (x3 : Int32) (K31 : Int32 × Int32 × wt_St → Option (Int32 × wt_St)) (σ : wt_St) : Option (Int32 × wt_St) :=
  K31 (x2, (x3 + (1 : Int32)), σ)
set_option maxRecDepth 100000 in
set_option maxHeartbeats 4000000 in
theorem wp_md_together_B164_ok  {x1 : Int32} {x2 : Int32} {x3 : Int32} {X : wt_X} {n : Nat} {res : Int32 × wt_St} (hE : wt_Ok X prog_13_method_91_code 6 "WornTypeModel" 4 0) (hR : wt_Rt X (some .int) (some res.1) res.2) (hD : ∀ i, 108 ≤ i → i < 321 → wt_dom (wt_xw X) i)  {K31 : Int32 × Int32 × wt_St → Option (Int32 × wt_St)} (hK31 : ∀ s : Int32 × Int32 × wt_St, K31 s = some res → wt_V X 0 s.2.2 31 [some (.ref (wt_ad (wt_xw X) 108)), some (.int x1), some (.int s.1), some (.int s.2.1), none, none] []) {σ : wt_St} (h : wp_md_together_B164 n x1 x2 x3 K31 σ = some res) : wt_V X 0 σ 164 [some (.ref (wt_ad (wt_xw X) 108)), some (.int x1), some (.int x2), some (.int x3), none, none] [] := by
  unfold wp_md_together_B164 at h
  refine wt_iinc hE (x3 + (1 : Int32)) [some (.ref (wt_ad (wt_xw X) 108)), some (.int x1), some (.int x2), some (.int (x3 + (1 : Int32))), none, none] wp_md_together_d164 (by decide) rfl rfl rfl ?_
  refine wt_goto hE 31 wp_md_together_d167 rfl ?_
  exact hK31 (x2, (x3 + (1 : Int32)), σ) h
noncomputable def wp_md_together_B163 (n : Nat) (x1 : Int32) (x3 : Int32) (K31 : Int32 × Int32 × wt_St → Option (Int32 × wt_St)) (y0 : Int32) (σ : wt_St) : Option (Int32 × wt_St) :=
  wp_md_together_B164 n x1 y0 x3 K31 σ
set_option maxRecDepth 100000 in
set_option maxHeartbeats 4000000 in
theorem wp_md_together_B163_ok  {x1 : Int32} {x3 : Int32} {X : wt_X} {n : Nat} {res : Int32 × wt_St} (hE : wt_Ok X prog_13_method_91_code 6 "WornTypeModel" 4 0) (hR : wt_Rt X (some .int) (some res.1) res.2) (hD : ∀ i, 108 ≤ i → i < 321 → wt_dom (wt_xw X) i)  {K31 : Int32 × Int32 × wt_St → Option (Int32 × wt_St)} (hK31 : ∀ s : Int32 × Int32 × wt_St, K31 s = some res → wt_V X 0 s.2.2 31 [some (.ref (wt_ad (wt_xw X) 108)), some (.int x1), some (.int s.1), some (.int s.2.1), none, none] []) {σ : wt_St} {y0 : Int32} (h : wp_md_together_B163 n x1 x3 K31 y0 σ = some res) : wt_V X 0 σ 163 [some (.ref (wt_ad (wt_xw X) 108)), some (.int x1), none, some (.int x3), none, none] [.int y0] := by
  unfold wp_md_together_B163 at h
  refine wt_istore_n hE [some (.ref (wt_ad (wt_xw X) 108)), some (.int x1), some (.int y0), some (.int x3), none, none] wp_md_together_d163 (by decide) rfl ?_
  exact wp_md_together_B164_ok hE hR hD hK31 h
noncomputable def wp_md_together_B146 (n : Nat) (x1 : Int32) (x2 : Int32) (x3 : Int32) (x4 : Int32) (x5 : Int32) (K31 : Int32 × Int32 × wt_St → Option (Int32 × wt_St)) (K110 : Int32 × wt_St → Option (Int32 × wt_St)) (e0 : Nat) (y1 : Int32) (y2 : Int32) (σ : wt_St) : Option (Int32 × wt_St) :=
  if y1 < 0 ∨ 338 ≤ Int32.toNatClampNeg y1 then none else
  K110 ((x5 + (1 : Int32)), (wt_sa σ e0 (Int32.toNatClampNeg y1) y2))
set_option maxRecDepth 100000 in
set_option maxHeartbeats 4000000 in
theorem wp_md_together_B146_ok  {x1 : Int32} {x2 : Int32} {x3 : Int32} {x4 : Int32} {x5 : Int32} {e0 : Nat} {X : wt_X} {n : Nat} {res : Int32 × wt_St} (hE : wt_Ok X prog_13_method_91_code 6 "WornTypeModel" 4 0) (hR : wt_Rt X (some .int) (some res.1) res.2) (hD : ∀ i, 108 ≤ i → i < 321 → wt_dom (wt_xw X) i)  (hA_e0 : wt_LAY[e0]? = some (0, 338, [])) (hd_e0 : wt_dom (wt_xw X) e0) {K31 : Int32 × Int32 × wt_St → Option (Int32 × wt_St)} (hK31 : ∀ s : Int32 × Int32 × wt_St, K31 s = some res → wt_V X 0 s.2.2 31 [some (.ref (wt_ad (wt_xw X) 108)), some (.int x1), some (.int s.1), some (.int s.2.1), none, none] []) {K110 : Int32 × wt_St → Option (Int32 × wt_St)} (hK110 : ∀ s : Int32 × wt_St, K110 s = some res → wt_V X 0 s.2 110 [some (.ref (wt_ad (wt_xw X) 108)), some (.int x1), some (.int x2), some (.int x3), some (.int x4), some (.int s.1)] []) {σ : wt_St} {y1 : Int32} {y2 : Int32} (h : wp_md_together_B146 n x1 x2 x3 x4 x5 K31 K110 e0 y1 y2 σ = some res) : wt_V X 0 σ 146 [some (.ref (wt_ad (wt_xw X) 108)), some (.int x1), some (.int x2), some (.int x3), some (.int x4), some (.int x5)] [.int y2, .int y1, .ref (wt_ad (wt_xw X) e0)] := by
  unfold wp_md_together_B146 at h
  obtain ⟨g15, h⟩ := wt_gd h
  refine wt_iast hE hd_e0 hA_e0 g15 wp_md_together_d146 ?_
  refine wt_iinc hE (x5 + (1 : Int32)) [some (.ref (wt_ad (wt_xw X) 108)), some (.int x1), some (.int x2), some (.int x3), some (.int x4), some (.int (x5 + (1 : Int32)))] wp_md_together_d147 (by decide) rfl rfl rfl ?_
  refine wt_goto hE 110 wp_md_together_d150 rfl ?_
  exact hK110 ((x5 + (1 : Int32)), (wt_sa σ e0 (Int32.toNatClampNeg y1) y2)) h
noncomputable def wp_md_together_B110 (n : Nat) (x1 : Int32) (x2 : Int32) (x3 : Int32) (x4 : Int32) (K31 : Int32 × Int32 × wt_St → Option (Int32 × wt_St)) (K110 : Int32 × wt_St → Option (Int32 × wt_St)) (s : Int32 × wt_St) : Option (Int32 × wt_St) :=
  if (338 : Int32) ≤ s.1 then
    if x4 = 0 then
      wp_md_together_B163 n x1 x3 K31 x2 s.2
    else
      wp_md_together_B163 n x1 x3 K31 x3 s.2
  else
    if s.1 < 0 ∨ 338 ≤ Int32.toNatClampNeg s.1 then none else
    if (wt_ga s.2 124 (Int32.toNatClampNeg s.1)) = (4 : Int32) then
      wp_md_together_B146 n x1 x2 x3 x4 s.1 K31 K110 124 s.1 (-1 : Int32) s.2
    else
      if s.1 < 0 ∨ 338 ≤ Int32.toNatClampNeg s.1 then none else
      wp_md_together_B146 n x1 x2 x3 x4 s.1 K31 K110 124 s.1 (wt_ga s.2 124 (Int32.toNatClampNeg s.1)) s.2
set_option maxRecDepth 100000 in
set_option maxHeartbeats 4000000 in
theorem wp_md_together_B110_ok  {x1 : Int32} {x2 : Int32} {x3 : Int32} {x4 : Int32} {X : wt_X} {n : Nat} {res : Int32 × wt_St} (hE : wt_Ok X prog_13_method_91_code 6 "WornTypeModel" 4 0) (hR : wt_Rt X (some .int) (some res.1) res.2) (hD : ∀ i, 108 ≤ i → i < 321 → wt_dom (wt_xw X) i)  {K31 : Int32 × Int32 × wt_St → Option (Int32 × wt_St)} (hK31 : ∀ s : Int32 × Int32 × wt_St, K31 s = some res → wt_V X 0 s.2.2 31 [some (.ref (wt_ad (wt_xw X) 108)), some (.int x1), some (.int s.1), some (.int s.2.1), none, none] []) {K110 : Int32 × wt_St → Option (Int32 × wt_St)} (hK110 : ∀ s : Int32 × wt_St, K110 s = some res → wt_V X 0 s.2 110 [some (.ref (wt_ad (wt_xw X) 108)), some (.int x1), some (.int x2), some (.int x3), some (.int x4), some (.int s.1)] []) {s : Int32 × wt_St} (h : wp_md_together_B110 n x1 x2 x3 x4 K31 K110 s = some res) : wt_V X 0 s.2 110 [some (.ref (wt_ad (wt_xw X) 108)), some (.int x1), some (.int x2), some (.int x3), some (.int x4), some (.int s.1)] [] := by
  unfold wp_md_together_B110 at h
  refine wt_iload hE wp_md_together_d110 rfl ?_
  refine wt_sipush hE (338 : Int32) wp_md_together_d112 wt_cs_338 ?_
  refine wt_icmp_ge hE 153 wp_md_together_d115 rfl (fun c10 => ?_) (fun c10 => ?_)
  · have h := wt_ip c10 h
    refine wt_iload hE wp_md_together_d153 rfl ?_
    refine wt_if_eq hE 162 wp_md_together_d155 rfl (fun c11 => ?_) (fun c11 => ?_)
    · have h := wt_ip c11 h
      refine wt_iload_n hE wp_md_together_d162 rfl ?_
      refine wt_wk [true, true, false, true, false, false] rfl ?_
      exact wp_md_together_B163_ok hE hR hD hK31 h
    · have h := wt_in c11 h
      refine wt_iload_n hE wp_md_together_d158 rfl ?_
      refine wt_goto hE 163 wp_md_together_d159 rfl ?_
      refine wt_wk [true, true, false, true, false, false] rfl ?_
      exact wp_md_together_B163_ok hE hR hD hK31 h
  · have h := wt_in c10 h
    refine wt_aload_n hE wp_md_together_d118 rfl ?_
    refine wt_getr hE (r := 124) wt_lf_md_59 (hD 108 (by decide) (by decide)) wt_L108 rfl wp_md_together_d119 ?_
    refine wt_iload hE wp_md_together_d122 rfl ?_
    refine wt_aload_n hE wp_md_together_d124 rfl ?_
    refine wt_getr hE (r := 124) wt_lf_md_59 (hD 108 (by decide) (by decide)) wt_L108 rfl wp_md_together_d125 ?_
    refine wt_iload hE wp_md_together_d128 rfl ?_
    obtain ⟨g12, h⟩ := wt_gd h
    refine wt_iald hE (hD 124 (by decide) (by decide)) wt_L124 g12 wp_md_together_d130 ?_
    refine wt_iconst hE (4 : Int32) wp_md_together_d131 wt_ci_4 ?_
    refine wt_icmp_ne hE 139 wp_md_together_d132 rfl (fun c13 => ?_) (fun c13 => ?_)
    · have h := wt_in c13 h
      refine wt_aload_n hE wp_md_together_d139 rfl ?_
      refine wt_getr hE (r := 124) wt_lf_md_59 (hD 108 (by decide) (by decide)) wt_L108 rfl wp_md_together_d140 ?_
      refine wt_iload hE wp_md_together_d143 rfl ?_
      obtain ⟨g14, h⟩ := wt_gd h
      refine wt_iald hE (hD 124 (by decide) (by decide)) wt_L124 g14 wp_md_together_d145 ?_
      exact wp_md_together_B146_ok hE hR hD wt_L124 (hD 124 (by decide) (by decide)) hK31 hK110 h
    · have h := wt_ip c13 h
      refine wt_iconst hE (-1 : Int32) wp_md_together_d135 wt_ci_m1 ?_
      refine wt_goto hE 146 wp_md_together_d136 rfl ?_
      exact wp_md_together_B146_ok hE hR hD wt_L124 (hD 124 (by decide) (by decide)) hK31 hK110 h
noncomputable def wp_md_together_B107 (n : Nat) (x1 : Int32) (x2 : Int32) (x3 : Int32) (x4 : Int32) (K31 : Int32 × Int32 × wt_St → Option (Int32 × wt_St)) (σ : wt_St) : Option (Int32 × wt_St) :=
  wt_it (wp_md_together_B110 n x1 x2 x3 x4 K31) n ((0 : Int32), σ)
set_option maxRecDepth 100000 in
set_option maxHeartbeats 4000000 in
theorem wp_md_together_B107_ok  {x1 : Int32} {x2 : Int32} {x3 : Int32} {x4 : Int32} {X : wt_X} {n : Nat} {res : Int32 × wt_St} (hE : wt_Ok X prog_13_method_91_code 6 "WornTypeModel" 4 0) (hR : wt_Rt X (some .int) (some res.1) res.2) (hD : ∀ i, 108 ≤ i → i < 321 → wt_dom (wt_xw X) i)  {K31 : Int32 × Int32 × wt_St → Option (Int32 × wt_St)} (hK31 : ∀ s : Int32 × Int32 × wt_St, K31 s = some res → wt_V X 0 s.2.2 31 [some (.ref (wt_ad (wt_xw X) 108)), some (.int x1), some (.int s.1), some (.int s.2.1), none, none] []) {σ : wt_St} (h : wp_md_together_B107 n x1 x2 x3 x4 K31 σ = some res) : wt_V X 0 σ 107 [some (.ref (wt_ad (wt_xw X) 108)), some (.int x1), some (.int x2), some (.int x3), some (.int x4), none] [] := by
  unfold wp_md_together_B107 at h
  refine wt_iconst hE (0 : Int32) wp_md_together_d107 wt_ci_0 ?_
  refine wt_istore hE [some (.ref (wt_ad (wt_xw X) 108)), some (.int x1), some (.int x2), some (.int x3), some (.int x4), some (.int (0 : Int32))] wp_md_together_d108 (Nat.le_of_ble_eq_true rfl) rfl ?_
  exact wt_it_ind (fun z => wt_V X 0 z.2 110 [some (.ref (wt_ad (wt_xw X) 108)), some (.int x1), some (.int x2), some (.int x3), some (.int x4), some (.int z.1)] []) (fun K hK z h => wp_md_together_B110_ok hE hR hD hK31 hK h) n ((0 : Int32), σ) h
noncomputable def wp_md_together_B101 (n : Nat) (x1 : Int32) (x2 : Int32) (x3 : Int32) (x4 : Int32) (x5 : Int32) (K31 : Int32 × Int32 × wt_St → Option (Int32 × wt_St)) (K61 : Int32 × Int32 × wt_St → Option (Int32 × wt_St)) (σ : wt_St) : Option (Int32 × wt_St) :=
  K61 (x4, (x5 + (1 : Int32)), σ)
set_option maxRecDepth 100000 in
set_option maxHeartbeats 4000000 in
theorem wp_md_together_B101_ok  {x1 : Int32} {x2 : Int32} {x3 : Int32} {x4 : Int32} {x5 : Int32} {X : wt_X} {n : Nat} {res : Int32 × wt_St} (hE : wt_Ok X prog_13_method_91_code 6 "WornTypeModel" 4 0) (hR : wt_Rt X (some .int) (some res.1) res.2) (hD : ∀ i, 108 ≤ i → i < 321 → wt_dom (wt_xw X) i)  {K31 : Int32 × Int32 × wt_St → Option (Int32 × wt_St)} (hK31 : ∀ s : Int32 × Int32 × wt_St, K31 s = some res → wt_V X 0 s.2.2 31 [some (.ref (wt_ad (wt_xw X) 108)), some (.int x1), some (.int s.1), some (.int s.2.1), none, none] []) {K61 : Int32 × Int32 × wt_St → Option (Int32 × wt_St)} (hK61 : ∀ s : Int32 × Int32 × wt_St, K61 s = some res → wt_V X 0 s.2.2 61 [some (.ref (wt_ad (wt_xw X) 108)), some (.int x1), some (.int x2), some (.int x3), some (.int s.1), some (.int s.2.1)] []) {σ : wt_St} (h : wp_md_together_B101 n x1 x2 x3 x4 x5 K31 K61 σ = some res) : wt_V X 0 σ 101 [some (.ref (wt_ad (wt_xw X) 108)), some (.int x1), some (.int x2), some (.int x3), some (.int x4), some (.int x5)] [] := by
  unfold wp_md_together_B101 at h
  refine wt_iinc hE (x5 + (1 : Int32)) [some (.ref (wt_ad (wt_xw X) 108)), some (.int x1), some (.int x2), some (.int x3), some (.int x4), some (.int (x5 + (1 : Int32)))] wp_md_together_d101 (by decide) rfl rfl rfl ?_
  refine wt_goto hE 61 wp_md_together_d104 rfl ?_
  exact hK61 (x4, (x5 + (1 : Int32)), σ) h
noncomputable def wp_md_together_B61 (n : Nat) (x1 : Int32) (x2 : Int32) (x3 : Int32) (K31 : Int32 × Int32 × wt_St → Option (Int32 × wt_St)) (K61 : Int32 × Int32 × wt_St → Option (Int32 × wt_St)) (s : Int32 × Int32 × wt_St) : Option (Int32 × wt_St) :=
  if (wt_gf s.2.2 108 39) ≤ s.2.1 then
    wp_md_together_B107 n x1 x2 x3 s.1 K31 s.2.2
  else
    if s.1 = 0 then
      wp_md_together_B107 n x1 x2 x3 s.1 K31 s.2.2
    else
      if ((x3 >>> (s.2.1 &&& 31)) &&& (1 : Int32)) = 0 then
        wp_md_together_B101 n x1 x2 x3 s.1 s.2.1 K31 K61 s.2.2
      else
        (wp_md_needsText n s.2.1 s.2.2).bind fun q18 =>
        (wp_md_takes n x1 (4 : Int32) q18).bind fun q19 =>
        wp_md_together_B101 n x1 x2 x3 q19.1 s.2.1 K31 K61 q19.2
set_option maxRecDepth 100000 in
set_option maxHeartbeats 4000000 in
theorem wp_md_together_B61_ok  {x1 : Int32} {x2 : Int32} {x3 : Int32} {X : wt_X} {n : Nat} {res : Int32 × wt_St} (hE : wt_Ok X prog_13_method_91_code 6 "WornTypeModel" 4 0) (hR : wt_Rt X (some .int) (some res.1) res.2) (hD : ∀ i, 108 ≤ i → i < 321 → wt_dom (wt_xw X) i)  {K31 : Int32 × Int32 × wt_St → Option (Int32 × wt_St)} (hK31 : ∀ s : Int32 × Int32 × wt_St, K31 s = some res → wt_V X 0 s.2.2 31 [some (.ref (wt_ad (wt_xw X) 108)), some (.int x1), some (.int s.1), some (.int s.2.1), none, none] []) {K61 : Int32 × Int32 × wt_St → Option (Int32 × wt_St)} (hK61 : ∀ s : Int32 × Int32 × wt_St, K61 s = some res → wt_V X 0 s.2.2 61 [some (.ref (wt_ad (wt_xw X) 108)), some (.int x1), some (.int x2), some (.int x3), some (.int s.1), some (.int s.2.1)] []) {s : Int32 × Int32 × wt_St} (h : wp_md_together_B61 n x1 x2 x3 K31 K61 s = some res) : wt_V X 0 s.2.2 61 [some (.ref (wt_ad (wt_xw X) 108)), some (.int x1), some (.int x2), some (.int x3), some (.int s.1), some (.int s.2.1)] [] := by
  unfold wp_md_together_B61 at h
  refine wt_iload hE wp_md_together_d61 rfl ?_
  refine wt_aload_n hE wp_md_together_d63 rfl ?_
  refine wt_geti hE wt_lf_md_265 (hD 108 (by decide) (by decide)) wt_L108 rfl wp_md_together_d64 ?_
  refine wt_icmp_ge hE 107 wp_md_together_d67 rfl (fun c9 => ?_) (fun c9 => ?_)
  · have h := wt_ip c9 h
    refine wt_wk [true, true, true, true, true, false] rfl ?_
    exact wp_md_together_B107_ok hE hR hD hK31 h
  · have h := wt_in c9 h
    refine wt_iload hE wp_md_together_d70 rfl ?_
    refine wt_if_eq hE 107 wp_md_together_d72 rfl (fun c16 => ?_) (fun c16 => ?_)
    · have h := wt_ip c16 h
      refine wt_wk [true, true, true, true, true, false] rfl ?_
      exact wp_md_together_B107_ok hE hR hD hK31 h
    · have h := wt_in c16 h
      refine wt_iload_n hE wp_md_together_d75 rfl ?_
      refine wt_iload hE wp_md_together_d76 rfl ?_
      refine wt_ishr hE wp_md_together_d78 ?_
      refine wt_iconst hE (1 : Int32) wp_md_together_d79 wt_ci_1 ?_
      refine wt_iand hE wp_md_together_d80 ?_
      refine wt_if_ne hE 87 wp_md_together_d81 rfl (fun c17 => ?_) (fun c17 => ?_)
      · have h := wt_in c17 h
        refine wt_aload_n hE wp_md_together_d87 rfl ?_
        refine wt_iload hE wp_md_together_d88 rfl ?_
        obtain ⟨q18, hq18, h⟩ := wt_bi h
        refine wt_callVv hE [.int s.2.1] wt_lm_md_310 wt_ya_md_needsText (wp_md_needsText_ok hD hq18) (by omega) (hD 108 (by decide) (by decide)) wt_L108 rfl rfl rfl (Nat.le_of_ble_eq_true rfl) (Nat.zero_le _) wp_md_together_d90 ?_
        refine wt_aload_n hE wp_md_together_d93 rfl ?_
        refine wt_iload_n hE wp_md_together_d94 rfl ?_
        refine wt_iconst hE (4 : Int32) wp_md_together_d95 wt_ci_4 ?_
        obtain ⟨q19, hq19, h⟩ := wt_bi h
        refine wt_callVi hE [.int x1, .int (4 : Int32)] wt_lm_md_322 wt_ya_md_takes (wp_md_takes_ok hD hq19) (by omega) (hD 108 (by decide) (by decide)) wt_L108 rfl rfl rfl (Nat.le_of_ble_eq_true rfl) (Nat.zero_le _) wp_md_together_d96 (fun hbq19 => ?_)
        refine wt_istore hE [some (.ref (wt_ad (wt_xw X) 108)), some (.int x1), some (.int x2), some (.int x3), some (.int q19.1), some (.int s.2.1)] wp_md_together_d99 (Nat.le_of_ble_eq_true rfl) rfl ?_
        exact wp_md_together_B101_ok hE hR hD hK31 hK61 h
      · have h := wt_ip c17 h
        refine wt_goto hE 101 wp_md_together_d84 rfl ?_
        exact wp_md_together_B101_ok hE hR hD hK31 hK61 h
noncomputable def wp_md_together_B31 (n : Nat) (x1 : Int32) (K31 : Int32 × Int32 × wt_St → Option (Int32 × wt_St)) (s : Int32 × Int32 × wt_St) : Option (Int32 × wt_St) :=
  if ((1 : Int32) <<< ((wt_gf s.2.2 108 39) &&& 31)) ≤ s.2.1 then
    some (s.1, s.2.2)
  else
    (wp_md_ones n s.2.1 s.2.2).bind fun q6 =>
    (wp_md_ones n s.1 q6.2).bind fun q7 =>
    if q7.1 < q6.1 then
      wt_it (wp_md_together_B61 n x1 s.1 s.2.1 K31) n ((1 : Int32), (0 : Int32), q7.2)
    else
      wp_md_together_B164 n x1 s.1 s.2.1 K31 q7.2
set_option maxRecDepth 100000 in
set_option maxHeartbeats 4000000 in
theorem wp_md_together_B31_ok  {x1 : Int32} {X : wt_X} {n : Nat} {res : Int32 × wt_St} (hE : wt_Ok X prog_13_method_91_code 6 "WornTypeModel" 4 0) (hR : wt_Rt X (some .int) (some res.1) res.2) (hD : ∀ i, 108 ≤ i → i < 321 → wt_dom (wt_xw X) i)  {K31 : Int32 × Int32 × wt_St → Option (Int32 × wt_St)} (hK31 : ∀ s : Int32 × Int32 × wt_St, K31 s = some res → wt_V X 0 s.2.2 31 [some (.ref (wt_ad (wt_xw X) 108)), some (.int x1), some (.int s.1), some (.int s.2.1), none, none] []) {s : Int32 × Int32 × wt_St} (h : wp_md_together_B31 n x1 K31 s = some res) : wt_V X 0 s.2.2 31 [some (.ref (wt_ad (wt_xw X) 108)), some (.int x1), some (.int s.1), some (.int s.2.1), none, none] [] := by
  unfold wp_md_together_B31 at h
  refine wt_iload_n hE wp_md_together_d31 rfl ?_
  refine wt_iconst hE (1 : Int32) wp_md_together_d32 wt_ci_1 ?_
  refine wt_aload_n hE wp_md_together_d33 rfl ?_
  refine wt_geti hE wt_lf_md_265 (hD 108 (by decide) (by decide)) wt_L108 rfl wp_md_together_d34 ?_
  refine wt_ishl hE wp_md_together_d37 ?_
  refine wt_icmp_ge hE 170 wp_md_together_d38 rfl (fun c5 => ?_) (fun c5 => ?_)
  · have h := wt_ip c5 h
    refine wt_iload_n hE wp_md_together_d170 rfl ?_
    cases h
    exact wt_iret hE hR wp_md_together_d171
  · have h := wt_in c5 h
    refine wt_iload_n hE wp_md_together_d41 rfl ?_
    obtain ⟨q6, hq6, h⟩ := wt_bi h
    refine wt_callSi hE [.int s.2.1] wt_lm_md_384 wt_ya_md_ones (wp_md_ones_ok hq6) (by omega) rfl rfl (Nat.le_of_ble_eq_true rfl) (Nat.zero_le _) wp_md_together_d42 (fun hbq6 => ?_)
    refine wt_iload_n hE wp_md_together_d45 rfl ?_
    obtain ⟨q7, hq7, h⟩ := wt_bi h
    refine wt_callSi hE [.int s.1] wt_lm_md_384 wt_ya_md_ones (wp_md_ones_ok hq7) (by omega) rfl rfl (Nat.le_of_ble_eq_true rfl) (Nat.zero_le _) wp_md_together_d46 (fun hbq7 => ?_)
    refine wt_icmp_gt hE 55 wp_md_together_d49 rfl (fun c8 => ?_) (fun c8 => ?_)
    · have h := wt_ip c8 h
      refine wt_iconst hE (1 : Int32) wp_md_together_d55 wt_ci_1 ?_
      refine wt_istore hE [some (.ref (wt_ad (wt_xw X) 108)), some (.int x1), some (.int s.1), some (.int s.2.1), some (.int (1 : Int32)), none] wp_md_together_d56 (Nat.le_of_ble_eq_true rfl) rfl ?_
      refine wt_iconst hE (0 : Int32) wp_md_together_d58 wt_ci_0 ?_
      refine wt_istore hE [some (.ref (wt_ad (wt_xw X) 108)), some (.int x1), some (.int s.1), some (.int s.2.1), some (.int (1 : Int32)), some (.int (0 : Int32))] wp_md_together_d59 (Nat.le_of_ble_eq_true rfl) rfl ?_
      exact wt_it_ind (fun z => wt_V X 0 z.2.2 61 [some (.ref (wt_ad (wt_xw X) 108)), some (.int x1), some (.int s.1), some (.int s.2.1), some (.int z.1), some (.int z.2.1)] []) (fun K hK z h => wp_md_together_B61_ok hE hR hD hK31 hK h) n ((1 : Int32), (0 : Int32), q7.2) h
    · have h := wt_in c8 h
      refine wt_goto hE 164 wp_md_together_d52 rfl ?_
      exact wp_md_together_B164_ok hE hR hD hK31 h
noncomputable def wp_md_together_B18 (n : Nat) (x1 : Int32) (y1 : Int32) (σ : wt_St) : Option (Int32 × wt_St) :=
  (wp_md_bad n y1 (1 : Int32) σ).bind fun q3 =>
  if q3.1 = 0 then
    wt_it (wp_md_together_B31 n x1) n ((0 : Int32), (0 : Int32), q3.2)
  else
    some ((0 : Int32), q3.2)
set_option maxRecDepth 100000 in
set_option maxHeartbeats 4000000 in
theorem wp_md_together_B18_ok  {x1 : Int32} {X : wt_X} {n : Nat} {res : Int32 × wt_St} (hE : wt_Ok X prog_13_method_91_code 6 "WornTypeModel" 4 0) (hR : wt_Rt X (some .int) (some res.1) res.2) (hD : ∀ i, 108 ≤ i → i < 321 → wt_dom (wt_xw X) i)  {σ : wt_St} {y1 : Int32} (h : wp_md_together_B18 n x1 y1 σ = some res) : wt_V X 0 σ 18 [some (.ref (wt_ad (wt_xw X) 108)), some (.int x1), none, none, none, none] [.int y1, .ref (wt_ad (wt_xw X) 108)] := by
  unfold wp_md_together_B18 at h
  refine wt_iconst hE (1 : Int32) wp_md_together_d18 wt_ci_1 ?_
  obtain ⟨q3, hq3, h⟩ := wt_bi h
  refine wt_callVi hE [.int y1, .int (1 : Int32)] wt_lm_md_230 wt_ya_md_bad (wp_md_bad_ok hD hq3) (by omega) (hD 108 (by decide) (by decide)) wt_L108 rfl rfl rfl (Nat.le_of_ble_eq_true rfl) (Nat.zero_le _) wp_md_together_d19 (fun hbq3 => ?_)
  refine wt_if_eq hE 27 wp_md_together_d22 rfl (fun c4 => ?_) (fun c4 => ?_)
  · have h := wt_ip c4 h
    refine wt_iconst hE (0 : Int32) wp_md_together_d27 wt_ci_0 ?_
    refine wt_istore_n hE [some (.ref (wt_ad (wt_xw X) 108)), some (.int x1), some (.int (0 : Int32)), none, none, none] wp_md_together_d28 (by decide) rfl ?_
    refine wt_iconst hE (0 : Int32) wp_md_together_d29 wt_ci_0 ?_
    refine wt_istore_n hE [some (.ref (wt_ad (wt_xw X) 108)), some (.int x1), some (.int (0 : Int32)), some (.int (0 : Int32)), none, none] wp_md_together_d30 (by decide) rfl ?_
    exact wt_it_ind (fun z => wt_V X 0 z.2.2 31 [some (.ref (wt_ad (wt_xw X) 108)), some (.int x1), some (.int z.1), some (.int z.2.1), none, none] []) (fun K hK z h => wp_md_together_B31_ok hE hR hD hK h) n ((0 : Int32), (0 : Int32), q3.2) h
  · have h := wt_in c4 h
    refine wt_iconst hE (0 : Int32) wp_md_together_d25 wt_ci_0 ?_
    cases h
    exact wt_iret hE hR wp_md_together_d26
noncomputable def wp_md_together (n : Nat) (x1 : Int32) (σ : wt_St) : Option (Int32 × wt_St) :=
  (wp_md_isCopies n x1 (wt_sf σ 108 0 (0 : Int32))).bind fun q1 =>
  if q1.1 = 0 then
    wp_md_together_B18 n x1 (1 : Int32) q1.2
  else
    wp_md_together_B18 n x1 (0 : Int32) q1.2
set_option maxRecDepth 100000 in
set_option maxHeartbeats 4000000 in
theorem wp_md_together_ok {l : Launch} {w : wt_E} {n : Nat} {x1 : Int32} (hD : ∀ i, 108 ≤ i → i < 321 → wt_dom w i) {σ : wt_St} {q : Int32 × wt_St} (h : wp_md_together n x1 σ = some q) : wt_Ctr l w wt_y_md_together prog_13_method_91_code 6 (some .int) 4 [.ref (wt_ad w 108), .int x1] σ (some q.1) q.2 := by
  refine wt_ctr wt_pl_md_together rfl (Nat.le_of_ble_eq_true rfl) [some (.ref (wt_ad w 108)), some (.int x1), none, none, none, none] rfl ?_
  intro X hXl hXw hE hR
  subst hXl
  subst hXw
  have hE : wt_Ok X prog_13_method_91_code 6 "WornTypeModel" 4 0 := hE
  unfold wp_md_together at h
  refine wt_aload_n hE wp_md_together_d0 rfl ?_
  refine wt_iconst hE (0 : Int32) wp_md_together_d1 wt_ci_0 ?_
  refine wt_puti hE wt_lf_md_151 (hD 108 (by decide) (by decide)) wt_L108 rfl (fun q hq => by cases hq; rfl) wp_md_together_d2 ?_
  refine wt_aload_n hE wp_md_together_d5 rfl ?_
  refine wt_iload_n hE wp_md_together_d6 rfl ?_
  obtain ⟨q1, hq1, h⟩ := wt_bi h
  refine wt_callSi hE [.int x1] wt_lm_md_313 wt_ya_md_isCopies (wp_md_isCopies_ok hq1) (by omega) rfl rfl (Nat.le_of_ble_eq_true rfl) (Nat.zero_le _) wp_md_together_d7 (fun hbq1 => ?_)
  refine wt_if_ne hE 17 wp_md_together_d10 rfl (fun c2 => ?_) (fun c2 => ?_)
  · have h := wt_in c2 h
    refine wt_iconst hE (0 : Int32) wp_md_together_d17 wt_ci_0 ?_
    exact wp_md_together_B18_ok hE hR hD h
  · have h := wt_ip c2 h
    refine wt_iconst hE (1 : Int32) wp_md_together_d13 wt_ci_1 ?_
    refine wt_goto hE 18 wp_md_together_d14 rfl ?_
    exact wp_md_together_B18_ok hE hR hD h
def wb19m9_prog_13_method_31_code_r3 : List (List Nat) := [172, 42, 180, 1, 21, 172, 42, 180, 1, 6, 172] :: []
def wb19m9_prog_13_method_31_code_r2 : List (List Nat) := [42, 182, 0, 243, 172, 42, 180, 1, 3, 172, 42, 180, 1, 9, 172, 42, 182, 1, 18, 172, 42, 180, 1, 12, 172, 42, 180, 0, 202] :: wb19m9_prog_13_method_31_code_r3
def wb19m9_prog_13_method_31_code_r1 : List (List Nat) := [3, 172, 27, 170, 0, 0, 0, 76, 0, 0, 0, 0, 0, 0, 0, 6, 0, 0, 0, 41, 0, 0, 0, 46, 0, 0, 0, 51, 0, 0, 0, 56, 0, 0, 0, 61, 0, 0, 0, 66, 0, 0, 0, 71] :: wb19m9_prog_13_method_31_code_r2
def wb19m9_prog_13_method_31_code_r0 : List (List Nat) := [42, 3, 181, 0, 151, 42, 27, 3, 16, 7, 184, 0, 185, 154, 0, 7, 4, 167, 0, 4, 3, 4, 182, 0, 230, 153, 0, 5] :: wb19m9_prog_13_method_31_code_r1
set_option maxRecDepth 100000 in
theorem wb19m9_prog_13_method_31_code_c0 : wt_cs prog_13_method_31_code 0 wb19m9_prog_13_method_31_code_r0 := wt_cs_of (by decide +kernel)
theorem wb19m9_prog_13_method_31_code_c1 : wt_cs prog_13_method_31_code 28 wb19m9_prog_13_method_31_code_r1 := wt_cs_tl (m := 28) wb19m9_prog_13_method_31_code_c0 rfl rfl
theorem wb19m9_prog_13_method_31_code_c2 : wt_cs prog_13_method_31_code 72 wb19m9_prog_13_method_31_code_r2 := wt_cs_tl (m := 44) wb19m9_prog_13_method_31_code_c1 rfl rfl
theorem wb19m9_prog_13_method_31_code_c3 : wt_cs prog_13_method_31_code 101 wb19m9_prog_13_method_31_code_r3 := wt_cs_tl (m := 29) wb19m9_prog_13_method_31_code_c2 rfl rfl
theorem wp_md_told_d0 : decode prog_13_method_31_code 0 = .ok (.aload_n 0, 1) := wt_op42 wb19m9_prog_13_method_31_code_c0 0 rfl rfl
theorem wp_md_told_d1 : decode prog_13_method_31_code 1 = .ok (.iconst 0, 1) := wt_op3 wb19m9_prog_13_method_31_code_c0 1 rfl rfl
theorem wp_md_told_d2 : decode prog_13_method_31_code 2 = .ok (.putfield 151, 3) := wt_op181 wb19m9_prog_13_method_31_code_c0 2 rfl rfl rfl
theorem wp_md_told_d5 : decode prog_13_method_31_code 5 = .ok (.aload_n 0, 1) := wt_op42 wb19m9_prog_13_method_31_code_c0 5 rfl rfl
theorem wp_md_told_d6 : decode prog_13_method_31_code 6 = .ok (.iload_n 1, 1) := wt_op27 wb19m9_prog_13_method_31_code_c0 6 rfl rfl
theorem wp_md_told_d7 : decode prog_13_method_31_code 7 = .ok (.iconst 0, 1) := wt_op3 wb19m9_prog_13_method_31_code_c0 7 rfl rfl
theorem wp_md_told_d8 : decode prog_13_method_31_code 8 = .ok (.bipush 7, 2) := wt_op16 wb19m9_prog_13_method_31_code_c0 8 rfl rfl rfl
theorem wp_md_told_d10 : decode prog_13_method_31_code 10 = .ok (.invokestatic 185, 3) := wt_op184 wb19m9_prog_13_method_31_code_c0 10 rfl rfl rfl
theorem wp_md_told_d13 : decode prog_13_method_31_code 13 = .ok (.ifCond .ne 7, 3) := wt_op154 wb19m9_prog_13_method_31_code_c0 13 rfl rfl rfl
theorem wp_md_told_d16 : decode prog_13_method_31_code 16 = .ok (.iconst 1, 1) := wt_op4 wb19m9_prog_13_method_31_code_c0 16 rfl rfl
theorem wp_md_told_d17 : decode prog_13_method_31_code 17 = .ok (.goto 4, 3) := wt_op167 wb19m9_prog_13_method_31_code_c0 17 rfl rfl rfl
theorem wp_md_told_d20 : decode prog_13_method_31_code 20 = .ok (.iconst 0, 1) := wt_op3 wb19m9_prog_13_method_31_code_c0 20 rfl rfl
theorem wp_md_told_d21 : decode prog_13_method_31_code 21 = .ok (.iconst 1, 1) := wt_op4 wb19m9_prog_13_method_31_code_c0 21 rfl rfl
theorem wp_md_told_d22 : decode prog_13_method_31_code 22 = .ok (.invokevirtual 230, 3) := wt_op182 wb19m9_prog_13_method_31_code_c0 22 rfl rfl rfl
theorem wp_md_told_d25 : decode prog_13_method_31_code 25 = .ok (.ifCond .eq 5, 3) := wt_op153 wb19m9_prog_13_method_31_code_c0 25 rfl rfl rfl
theorem wp_md_told_d28 : decode prog_13_method_31_code 28 = .ok (.iconst 0, 1) := wt_op3 wb19m9_prog_13_method_31_code_c1 0 rfl rfl
theorem wp_md_told_d29 : decode prog_13_method_31_code 29 = .ok (.ireturn, 1) := wt_op172 wb19m9_prog_13_method_31_code_c1 1 rfl rfl
theorem wp_md_told_d30 : decode prog_13_method_31_code 30 = .ok (.iload_n 1, 1) := wt_op27 wb19m9_prog_13_method_31_code_c1 2 rfl rfl
theorem wp_md_told_d31 : decode prog_13_method_31_code 31 = .ok (.tableswitch 76 0 6 #[41, 46, 51, 56, 61, 66, 71], 41) := by decide +kernel
theorem wp_md_told_d72 : decode prog_13_method_31_code 72 = .ok (.aload_n 0, 1) := wt_op42 wb19m9_prog_13_method_31_code_c2 0 rfl rfl
theorem wp_md_told_d73 : decode prog_13_method_31_code 73 = .ok (.invokevirtual 243, 3) := wt_op182 wb19m9_prog_13_method_31_code_c2 1 rfl rfl rfl
theorem wp_md_told_d76 : decode prog_13_method_31_code 76 = .ok (.ireturn, 1) := wt_op172 wb19m9_prog_13_method_31_code_c2 4 rfl rfl
theorem wp_md_told_d77 : decode prog_13_method_31_code 77 = .ok (.aload_n 0, 1) := wt_op42 wb19m9_prog_13_method_31_code_c2 5 rfl rfl
theorem wp_md_told_d78 : decode prog_13_method_31_code 78 = .ok (.getfield 259, 3) := wt_op180 wb19m9_prog_13_method_31_code_c2 6 rfl rfl rfl
theorem wp_md_told_d81 : decode prog_13_method_31_code 81 = .ok (.ireturn, 1) := wt_op172 wb19m9_prog_13_method_31_code_c2 9 rfl rfl
theorem wp_md_told_d82 : decode prog_13_method_31_code 82 = .ok (.aload_n 0, 1) := wt_op42 wb19m9_prog_13_method_31_code_c2 10 rfl rfl
theorem wp_md_told_d83 : decode prog_13_method_31_code 83 = .ok (.getfield 265, 3) := wt_op180 wb19m9_prog_13_method_31_code_c2 11 rfl rfl rfl
theorem wp_md_told_d86 : decode prog_13_method_31_code 86 = .ok (.ireturn, 1) := wt_op172 wb19m9_prog_13_method_31_code_c2 14 rfl rfl
theorem wp_md_told_d87 : decode prog_13_method_31_code 87 = .ok (.aload_n 0, 1) := wt_op42 wb19m9_prog_13_method_31_code_c2 15 rfl rfl
theorem wp_md_told_d88 : decode prog_13_method_31_code 88 = .ok (.invokevirtual 274, 3) := wt_op182 wb19m9_prog_13_method_31_code_c2 16 rfl rfl rfl
theorem wp_md_told_d91 : decode prog_13_method_31_code 91 = .ok (.ireturn, 1) := wt_op172 wb19m9_prog_13_method_31_code_c2 19 rfl rfl
theorem wp_md_told_d92 : decode prog_13_method_31_code 92 = .ok (.aload_n 0, 1) := wt_op42 wb19m9_prog_13_method_31_code_c2 20 rfl rfl
theorem wp_md_told_d93 : decode prog_13_method_31_code 93 = .ok (.getfield 268, 3) := wt_op180 wb19m9_prog_13_method_31_code_c2 21 rfl rfl rfl
theorem wp_md_told_d96 : decode prog_13_method_31_code 96 = .ok (.ireturn, 1) := wt_op172 wb19m9_prog_13_method_31_code_c2 24 rfl rfl
theorem wp_md_told_d97 : decode prog_13_method_31_code 97 = .ok (.aload_n 0, 1) := wt_op42 wb19m9_prog_13_method_31_code_c2 25 rfl rfl
theorem wp_md_told_d98 : decode prog_13_method_31_code 98 = .ok (.getfield 202, 3) := wt_op180 wb19m9_prog_13_method_31_code_c2 26 rfl rfl rfl
theorem wp_md_told_d101 : decode prog_13_method_31_code 101 = .ok (.ireturn, 1) := wt_op172 wb19m9_prog_13_method_31_code_c3 0 rfl rfl
theorem wp_md_told_d102 : decode prog_13_method_31_code 102 = .ok (.aload_n 0, 1) := wt_op42 wb19m9_prog_13_method_31_code_c3 1 rfl rfl
theorem wp_md_told_d103 : decode prog_13_method_31_code 103 = .ok (.getfield 277, 3) := wt_op180 wb19m9_prog_13_method_31_code_c3 2 rfl rfl rfl
theorem wp_md_told_d106 : decode prog_13_method_31_code 106 = .ok (.ireturn, 1) := wt_op172 wb19m9_prog_13_method_31_code_c3 5 rfl rfl
theorem wp_md_told_d107 : decode prog_13_method_31_code 107 = .ok (.aload_n 0, 1) := wt_op42 wb19m9_prog_13_method_31_code_c3 6 rfl rfl
theorem wp_md_told_d108 : decode prog_13_method_31_code 108 = .ok (.getfield 262, 3) := wt_op180 wb19m9_prog_13_method_31_code_c3 7 rfl rfl rfl
theorem wp_md_told_d111 : decode prog_13_method_31_code 111 = .ok (.ireturn, 1) := wt_op172 wb19m9_prog_13_method_31_code_c3 10 rfl rfl
noncomputable def wp_md_told_B21 (n : Nat) (x1 : Int32) (y1 : Int32) (σ : wt_St) : Option (Int32 × wt_St) :=
  (wp_md_bad n y1 (1 : Int32) σ).bind fun q3 =>
  if q3.1 = 0 then
    if x1 = (0 : Int32) then
      (wp_md_allPieces n q3.2).bind fun q6 =>
      some (q6.1, q6.2)
    else if x1 = (1 : Int32) then
      some ((wt_gf q3.2 108 28), q3.2)
    else if x1 = (2 : Int32) then
      some ((wt_gf q3.2 108 39), q3.2)
    else if x1 = (3 : Int32) then
      (wp_md_standing n q3.2).bind fun q10 =>
      some (q10.1, q10.2)
    else if x1 = (4 : Int32) then
      some ((wt_gf q3.2 108 40), q3.2)
    else if x1 = (5 : Int32) then
      some ((wt_gf q3.2 108 25), q3.2)
    else if x1 = (6 : Int32) then
      some ((wt_gf q3.2 108 26), q3.2)
    else some ((wt_gf q3.2 108 30), q3.2)
  else
    some ((0 : Int32), q3.2)
set_option maxRecDepth 100000 in
set_option maxHeartbeats 4000000 in
theorem wp_md_told_B21_ok  {x1 : Int32} {X : wt_X} {n : Nat} {res : Int32 × wt_St} (hE : wt_Ok X prog_13_method_31_code 2 "WornTypeModel" 1 0) (hR : wt_Rt X (some .int) (some res.1) res.2) (hD : ∀ i, 108 ≤ i → i < 321 → wt_dom (wt_xw X) i)  {σ : wt_St} {y1 : Int32} (h : wp_md_told_B21 n x1 y1 σ = some res) : wt_V X 0 σ 21 [some (.ref (wt_ad (wt_xw X) 108)), some (.int x1)] [.int y1, .ref (wt_ad (wt_xw X) 108)] := by
  unfold wp_md_told_B21 at h
  refine wt_iconst hE (1 : Int32) wp_md_told_d21 wt_ci_1 ?_
  obtain ⟨q3, hq3, h⟩ := wt_bi h
  refine wt_callVi hE [.int y1, .int (1 : Int32)] wt_lm_md_230 wt_ya_md_bad (wp_md_bad_ok hD hq3) (by omega) (hD 108 (by decide) (by decide)) wt_L108 rfl rfl rfl (Nat.le_of_ble_eq_true rfl) (Nat.zero_le _) wp_md_told_d22 (fun hbq3 => ?_)
  refine wt_if_eq hE 30 wp_md_told_d25 rfl (fun c4 => ?_) (fun c4 => ?_)
  · have h := wt_ip c4 h
    refine wt_iload_n hE wp_md_told_d30 rfl ?_
    by_cases c5 : x1 = (0 : Int32)
    · have h := wt_ip c5 h
      refine wt_tsIn hE (off := 41) 72 c5 wp_md_told_d31 (by decide) (by decide) (by decide) rfl ?_
      refine wt_aload_n hE wp_md_told_d72 rfl ?_
      obtain ⟨q6, hq6, h⟩ := wt_bi h
      refine wt_callVi hE [] wt_lm_md_243 wt_ya_md_allPieces (wp_md_allPieces_ok hD hq6) (by omega) (hD 108 (by decide) (by decide)) wt_L108 rfl rfl rfl (Nat.le_of_ble_eq_true rfl) (Nat.zero_le _) wp_md_told_d73 (fun hbq6 => ?_)
      cases h
      exact wt_iret hE hR wp_md_told_d76
    have h := wt_in c5 h
    by_cases c7 : x1 = (1 : Int32)
    · have h := wt_ip c7 h
      refine wt_tsIn hE (off := 46) 77 c7 wp_md_told_d31 (by decide) (by decide) (by decide) rfl ?_
      refine wt_aload_n hE wp_md_told_d77 rfl ?_
      refine wt_geti hE wt_lf_md_259 (hD 108 (by decide) (by decide)) wt_L108 rfl wp_md_told_d78 ?_
      cases h
      exact wt_iret hE hR wp_md_told_d81
    have h := wt_in c7 h
    by_cases c8 : x1 = (2 : Int32)
    · have h := wt_ip c8 h
      refine wt_tsIn hE (off := 51) 82 c8 wp_md_told_d31 (by decide) (by decide) (by decide) rfl ?_
      refine wt_aload_n hE wp_md_told_d82 rfl ?_
      refine wt_geti hE wt_lf_md_265 (hD 108 (by decide) (by decide)) wt_L108 rfl wp_md_told_d83 ?_
      cases h
      exact wt_iret hE hR wp_md_told_d86
    have h := wt_in c8 h
    by_cases c9 : x1 = (3 : Int32)
    · have h := wt_ip c9 h
      refine wt_tsIn hE (off := 56) 87 c9 wp_md_told_d31 (by decide) (by decide) (by decide) rfl ?_
      refine wt_aload_n hE wp_md_told_d87 rfl ?_
      obtain ⟨q10, hq10, h⟩ := wt_bi h
      refine wt_callVi hE [] wt_lm_md_274 wt_ya_md_standing (wp_md_standing_ok hD hq10) (by omega) (hD 108 (by decide) (by decide)) wt_L108 rfl rfl rfl (Nat.le_of_ble_eq_true rfl) (Nat.zero_le _) wp_md_told_d88 (fun hbq10 => ?_)
      cases h
      exact wt_iret hE hR wp_md_told_d91
    have h := wt_in c9 h
    by_cases c11 : x1 = (4 : Int32)
    · have h := wt_ip c11 h
      refine wt_tsIn hE (off := 61) 92 c11 wp_md_told_d31 (by decide) (by decide) (by decide) rfl ?_
      refine wt_aload_n hE wp_md_told_d92 rfl ?_
      refine wt_geti hE wt_lf_md_268 (hD 108 (by decide) (by decide)) wt_L108 rfl wp_md_told_d93 ?_
      cases h
      exact wt_iret hE hR wp_md_told_d96
    have h := wt_in c11 h
    by_cases c12 : x1 = (5 : Int32)
    · have h := wt_ip c12 h
      refine wt_tsIn hE (off := 66) 97 c12 wp_md_told_d31 (by decide) (by decide) (by decide) rfl ?_
      refine wt_aload_n hE wp_md_told_d97 rfl ?_
      refine wt_geti hE wt_lf_md_202 (hD 108 (by decide) (by decide)) wt_L108 rfl wp_md_told_d98 ?_
      cases h
      exact wt_iret hE hR wp_md_told_d101
    have h := wt_in c12 h
    by_cases c13 : x1 = (6 : Int32)
    · have h := wt_ip c13 h
      refine wt_tsIn hE (off := 71) 102 c13 wp_md_told_d31 (by decide) (by decide) (by decide) rfl ?_
      refine wt_aload_n hE wp_md_told_d102 rfl ?_
      refine wt_geti hE wt_lf_md_277 (hD 108 (by decide) (by decide)) wt_L108 rfl wp_md_told_d103 ?_
      cases h
      exact wt_iret hE hR wp_md_told_d106
    have h := wt_in c13 h
    refine wt_tsOut hE 7 107 rfl (by decide) (fun j hj => ?_) wp_md_told_d31 rfl ?_
    · rcases (show j = 0 ∨ j = 1 ∨ j = 2 ∨ j = 3 ∨ j = 4 ∨ j = 5 ∨ j = 6 by omega) with rfl | rfl | rfl | rfl | rfl | rfl | rfl
      · exact c5
      · exact c7
      · exact c8
      · exact c9
      · exact c11
      · exact c12
      · exact c13
    refine wt_aload_n hE wp_md_told_d107 rfl ?_
    refine wt_geti hE wt_lf_md_262 (hD 108 (by decide) (by decide)) wt_L108 rfl wp_md_told_d108 ?_
    cases h
    exact wt_iret hE hR wp_md_told_d111
  · have h := wt_in c4 h
    refine wt_iconst hE (0 : Int32) wp_md_told_d28 wt_ci_0 ?_
    cases h
    exact wt_iret hE hR wp_md_told_d29
noncomputable def wp_md_told (n : Nat) (x1 : Int32) (σ : wt_St) : Option (Int32 × wt_St) :=
  (wp_md_in n x1 (0 : Int32) (7 : Int32) (wt_sf σ 108 0 (0 : Int32))).bind fun q1 =>
  if q1.1 = 0 then
    wp_md_told_B21 n x1 (1 : Int32) q1.2
  else
    wp_md_told_B21 n x1 (0 : Int32) q1.2
set_option maxRecDepth 100000 in
set_option maxHeartbeats 4000000 in
theorem wp_md_told_ok {l : Launch} {w : wt_E} {n : Nat} {x1 : Int32} (hD : ∀ i, 108 ≤ i → i < 321 → wt_dom w i) {σ : wt_St} {q : Int32 × wt_St} (h : wp_md_told n x1 σ = some q) : wt_Ctr l w wt_y_md_told prog_13_method_31_code 2 (some .int) 1 [.ref (wt_ad w 108), .int x1] σ (some q.1) q.2 := by
  refine wt_ctr wt_pl_md_told rfl (Nat.le_of_ble_eq_true rfl) [some (.ref (wt_ad w 108)), some (.int x1)] rfl ?_
  intro X hXl hXw hE hR
  subst hXl
  subst hXw
  have hE : wt_Ok X prog_13_method_31_code 2 "WornTypeModel" 1 0 := hE
  unfold wp_md_told at h
  refine wt_aload_n hE wp_md_told_d0 rfl ?_
  refine wt_iconst hE (0 : Int32) wp_md_told_d1 wt_ci_0 ?_
  refine wt_puti hE wt_lf_md_151 (hD 108 (by decide) (by decide)) wt_L108 rfl (fun q hq => by cases hq; rfl) wp_md_told_d2 ?_
  refine wt_aload_n hE wp_md_told_d5 rfl ?_
  refine wt_iload_n hE wp_md_told_d6 rfl ?_
  refine wt_iconst hE (0 : Int32) wp_md_told_d7 wt_ci_0 ?_
  refine wt_bipush hE (7 : Int32) wp_md_told_d8 wt_cb_7 ?_
  obtain ⟨q1, hq1, h⟩ := wt_bi h
  refine wt_callSi hE [.int x1, .int (0 : Int32), .int (7 : Int32)] wt_lm_md_185 wt_ya_md_in (wp_md_in_ok hq1) (by omega) rfl rfl (Nat.le_of_ble_eq_true rfl) (Nat.zero_le _) wp_md_told_d10 (fun hbq1 => ?_)
  refine wt_if_ne hE 20 wp_md_told_d13 rfl (fun c2 => ?_) (fun c2 => ?_)
  · have h := wt_in c2 h
    refine wt_iconst hE (0 : Int32) wp_md_told_d20 wt_ci_0 ?_
    exact wp_md_told_B21_ok hE hR hD h
  · have h := wt_ip c2 h
    refine wt_iconst hE (1 : Int32) wp_md_told_d16 wt_ci_1 ?_
    refine wt_goto hE 21 wp_md_told_d17 rfl ?_
    exact wp_md_told_B21_ok hE hR hD h
def wb19m9_prog_13_method_27_code_r10 : List (List Nat) := [28, 182, 1, 15, 132, 2, 1, 167, 255, 233, 42, 180, 1, 3, 172] :: []
def wb19m9_prog_13_method_27_code_r9 : List (List Nat) := [42, 3, 181, 1, 12, 42, 3, 181, 0, 240, 3, 61, 28, 7, 162, 0, 24, 42, 180, 0, 100, 28, 46, 2, 159, 0, 8, 42] :: wb19m9_prog_13_method_27_code_r10
def wb19m9_prog_13_method_27_code_r8 : List (List Nat) := [50, 29, 42, 180, 0, 82, 28, 50, 29, 46, 79, 132, 3, 1, 167, 255, 231, 132, 2, 1, 167, 255, 179, 42, 3, 181, 1, 9] :: wb19m9_prog_13_method_27_code_r9
def wb19m9_prog_13_method_27_code_r7 : List (List Nat) := [28, 46, 79, 42, 180, 0, 77, 28, 42, 180, 0, 74, 28, 46, 79, 3, 62, 29, 16, 9, 162, 0, 25, 42, 180, 0, 85, 28] :: wb19m9_prog_13_method_27_code_r8
def wb19m9_prog_13_method_27_code_r6 : List (List Nat) := [61, 28, 42, 180, 1, 3, 162, 0, 75, 42, 180, 0, 65, 28, 42, 180, 0, 62, 28, 46, 79, 42, 180, 0, 71, 28, 42, 180, 0, 68] :: wb19m9_prog_13_method_27_code_r7
def wb19m9_prog_13_method_27_code_r5 : List (List Nat) := [153, 0, 11, 42, 180, 0, 167, 16, 10, 100, 172, 42, 42, 180, 0, 246, 181, 1, 3, 42, 42, 180, 0, 253, 181, 1, 6, 3] :: wb19m9_prog_13_method_27_code_r6
def wb19m9_prog_13_method_27_code_r4 : List (List Nat) := [167, 255, 214, 42, 16, 59, 182, 0, 223, 42, 182, 0, 173, 167, 255, 172, 42, 42, 180, 0, 170, 181, 0, 9, 42, 180, 0, 167] :: wb19m9_prog_13_method_27_code_r5
def wb19m9_prog_13_method_27_code_r3 : List (List Nat) := [182, 0, 163, 16, 44, 160, 0, 28, 42, 89, 180, 0, 160, 4, 96, 181, 0, 160, 42, 28, 182, 1, 0, 42, 182, 0, 173, 132, 2, 1] :: wb19m9_prog_13_method_27_code_r4
def wb19m9_prog_13_method_27_code_r2 : List (List Nat) := [42, 180, 0, 157, 162, 0, 72, 42, 3, 182, 1, 0, 42, 182, 0, 173, 4, 61, 42, 180, 0, 167, 154, 0, 41, 42, 42, 180, 0, 160] :: wb19m9_prog_13_method_27_code_r3
def wb19m9_prog_13_method_27_code_r1 : List (List Nat) := [3, 172, 42, 27, 182, 0, 234, 42, 3, 181, 0, 246, 42, 3, 181, 0, 253, 42, 180, 0, 167, 154, 0, 83, 42, 180, 0, 160] :: wb19m9_prog_13_method_27_code_r2
def wb19m9_prog_13_method_27_code_r0 : List (List Nat) := [42, 3, 181, 0, 151, 42, 27, 3, 42, 180, 0, 154, 184, 0, 185, 154, 0, 7, 4, 167, 0, 4, 3, 4, 182, 0, 230, 153, 0, 5] :: wb19m9_prog_13_method_27_code_r1
set_option maxRecDepth 100000 in
theorem wb19m9_prog_13_method_27_code_c0 : wt_cs prog_13_method_27_code 0 wb19m9_prog_13_method_27_code_r0 := wt_cs_of (by decide +kernel)
theorem wb19m9_prog_13_method_27_code_c1 : wt_cs prog_13_method_27_code 30 wb19m9_prog_13_method_27_code_r1 := wt_cs_tl (m := 30) wb19m9_prog_13_method_27_code_c0 rfl rfl
theorem wb19m9_prog_13_method_27_code_c2 : wt_cs prog_13_method_27_code 58 wb19m9_prog_13_method_27_code_r2 := wt_cs_tl (m := 28) wb19m9_prog_13_method_27_code_c1 rfl rfl
theorem wb19m9_prog_13_method_27_code_c3 : wt_cs prog_13_method_27_code 88 wb19m9_prog_13_method_27_code_r3 := wt_cs_tl (m := 30) wb19m9_prog_13_method_27_code_c2 rfl rfl
theorem wb19m9_prog_13_method_27_code_c4 : wt_cs prog_13_method_27_code 118 wb19m9_prog_13_method_27_code_r4 := wt_cs_tl (m := 30) wb19m9_prog_13_method_27_code_c3 rfl rfl
theorem wb19m9_prog_13_method_27_code_c5 : wt_cs prog_13_method_27_code 146 wb19m9_prog_13_method_27_code_r5 := wt_cs_tl (m := 28) wb19m9_prog_13_method_27_code_c4 rfl rfl
theorem wb19m9_prog_13_method_27_code_c6 : wt_cs prog_13_method_27_code 174 wb19m9_prog_13_method_27_code_r6 := wt_cs_tl (m := 28) wb19m9_prog_13_method_27_code_c5 rfl rfl
theorem wb19m9_prog_13_method_27_code_c7 : wt_cs prog_13_method_27_code 204 wb19m9_prog_13_method_27_code_r7 := wt_cs_tl (m := 30) wb19m9_prog_13_method_27_code_c6 rfl rfl
theorem wb19m9_prog_13_method_27_code_c8 : wt_cs prog_13_method_27_code 232 wb19m9_prog_13_method_27_code_r8 := wt_cs_tl (m := 28) wb19m9_prog_13_method_27_code_c7 rfl rfl
theorem wb19m9_prog_13_method_27_code_c9 : wt_cs prog_13_method_27_code 260 wb19m9_prog_13_method_27_code_r9 := wt_cs_tl (m := 28) wb19m9_prog_13_method_27_code_c8 rfl rfl
theorem wb19m9_prog_13_method_27_code_c10 : wt_cs prog_13_method_27_code 288 wb19m9_prog_13_method_27_code_r10 := wt_cs_tl (m := 28) wb19m9_prog_13_method_27_code_c9 rfl rfl
theorem wp_md_tongue_d0 : decode prog_13_method_27_code 0 = .ok (.aload_n 0, 1) := wt_op42 wb19m9_prog_13_method_27_code_c0 0 rfl rfl
theorem wp_md_tongue_d1 : decode prog_13_method_27_code 1 = .ok (.iconst 0, 1) := wt_op3 wb19m9_prog_13_method_27_code_c0 1 rfl rfl
theorem wp_md_tongue_d2 : decode prog_13_method_27_code 2 = .ok (.putfield 151, 3) := wt_op181 wb19m9_prog_13_method_27_code_c0 2 rfl rfl rfl
theorem wp_md_tongue_d5 : decode prog_13_method_27_code 5 = .ok (.aload_n 0, 1) := wt_op42 wb19m9_prog_13_method_27_code_c0 5 rfl rfl
theorem wp_md_tongue_d6 : decode prog_13_method_27_code 6 = .ok (.iload_n 1, 1) := wt_op27 wb19m9_prog_13_method_27_code_c0 6 rfl rfl
theorem wp_md_tongue_d7 : decode prog_13_method_27_code 7 = .ok (.iconst 0, 1) := wt_op3 wb19m9_prog_13_method_27_code_c0 7 rfl rfl
theorem wp_md_tongue_d8 : decode prog_13_method_27_code 8 = .ok (.aload_n 0, 1) := wt_op42 wb19m9_prog_13_method_27_code_c0 8 rfl rfl
theorem wp_md_tongue_d9 : decode prog_13_method_27_code 9 = .ok (.getfield 154, 3) := wt_op180 wb19m9_prog_13_method_27_code_c0 9 rfl rfl rfl
theorem wp_md_tongue_d12 : decode prog_13_method_27_code 12 = .ok (.invokestatic 185, 3) := wt_op184 wb19m9_prog_13_method_27_code_c0 12 rfl rfl rfl
theorem wp_md_tongue_d15 : decode prog_13_method_27_code 15 = .ok (.ifCond .ne 7, 3) := wt_op154 wb19m9_prog_13_method_27_code_c0 15 rfl rfl rfl
theorem wp_md_tongue_d18 : decode prog_13_method_27_code 18 = .ok (.iconst 1, 1) := wt_op4 wb19m9_prog_13_method_27_code_c0 18 rfl rfl
theorem wp_md_tongue_d19 : decode prog_13_method_27_code 19 = .ok (.goto 4, 3) := wt_op167 wb19m9_prog_13_method_27_code_c0 19 rfl rfl rfl
theorem wp_md_tongue_d22 : decode prog_13_method_27_code 22 = .ok (.iconst 0, 1) := wt_op3 wb19m9_prog_13_method_27_code_c0 22 rfl rfl
theorem wp_md_tongue_d23 : decode prog_13_method_27_code 23 = .ok (.iconst 1, 1) := wt_op4 wb19m9_prog_13_method_27_code_c0 23 rfl rfl
theorem wp_md_tongue_d24 : decode prog_13_method_27_code 24 = .ok (.invokevirtual 230, 3) := wt_op182 wb19m9_prog_13_method_27_code_c0 24 rfl rfl rfl
theorem wp_md_tongue_d27 : decode prog_13_method_27_code 27 = .ok (.ifCond .eq 5, 3) := wt_op153 wb19m9_prog_13_method_27_code_c0 27 rfl rfl rfl
theorem wp_md_tongue_d30 : decode prog_13_method_27_code 30 = .ok (.iconst 0, 1) := wt_op3 wb19m9_prog_13_method_27_code_c1 0 rfl rfl
theorem wp_md_tongue_d31 : decode prog_13_method_27_code 31 = .ok (.ireturn, 1) := wt_op172 wb19m9_prog_13_method_27_code_c1 1 rfl rfl
theorem wp_md_tongue_d32 : decode prog_13_method_27_code 32 = .ok (.aload_n 0, 1) := wt_op42 wb19m9_prog_13_method_27_code_c1 2 rfl rfl
theorem wp_md_tongue_d33 : decode prog_13_method_27_code 33 = .ok (.iload_n 1, 1) := wt_op27 wb19m9_prog_13_method_27_code_c1 3 rfl rfl
theorem wp_md_tongue_d34 : decode prog_13_method_27_code 34 = .ok (.invokevirtual 234, 3) := wt_op182 wb19m9_prog_13_method_27_code_c1 4 rfl rfl rfl
theorem wp_md_tongue_d37 : decode prog_13_method_27_code 37 = .ok (.aload_n 0, 1) := wt_op42 wb19m9_prog_13_method_27_code_c1 7 rfl rfl
theorem wp_md_tongue_d38 : decode prog_13_method_27_code 38 = .ok (.iconst 0, 1) := wt_op3 wb19m9_prog_13_method_27_code_c1 8 rfl rfl
theorem wp_md_tongue_d39 : decode prog_13_method_27_code 39 = .ok (.putfield 246, 3) := wt_op181 wb19m9_prog_13_method_27_code_c1 9 rfl rfl rfl
theorem wp_md_tongue_d42 : decode prog_13_method_27_code 42 = .ok (.aload_n 0, 1) := wt_op42 wb19m9_prog_13_method_27_code_c1 12 rfl rfl
theorem wp_md_tongue_d43 : decode prog_13_method_27_code 43 = .ok (.iconst 0, 1) := wt_op3 wb19m9_prog_13_method_27_code_c1 13 rfl rfl
theorem wp_md_tongue_d44 : decode prog_13_method_27_code 44 = .ok (.putfield 253, 3) := wt_op181 wb19m9_prog_13_method_27_code_c1 14 rfl rfl rfl
theorem wp_md_tongue_d47 : decode prog_13_method_27_code 47 = .ok (.aload_n 0, 1) := wt_op42 wb19m9_prog_13_method_27_code_c1 17 rfl rfl
theorem wp_md_tongue_d48 : decode prog_13_method_27_code 48 = .ok (.getfield 167, 3) := wt_op180 wb19m9_prog_13_method_27_code_c1 18 rfl rfl rfl
theorem wp_md_tongue_d51 : decode prog_13_method_27_code 51 = .ok (.ifCond .ne 83, 3) := wt_op154 wb19m9_prog_13_method_27_code_c1 21 rfl rfl rfl
theorem wp_md_tongue_d54 : decode prog_13_method_27_code 54 = .ok (.aload_n 0, 1) := wt_op42 wb19m9_prog_13_method_27_code_c1 24 rfl rfl
theorem wp_md_tongue_d55 : decode prog_13_method_27_code 55 = .ok (.getfield 160, 3) := wt_op180 wb19m9_prog_13_method_27_code_c1 25 rfl rfl rfl
theorem wp_md_tongue_d58 : decode prog_13_method_27_code 58 = .ok (.aload_n 0, 1) := wt_op42 wb19m9_prog_13_method_27_code_c2 0 rfl rfl
theorem wp_md_tongue_d59 : decode prog_13_method_27_code 59 = .ok (.getfield 157, 3) := wt_op180 wb19m9_prog_13_method_27_code_c2 1 rfl rfl rfl
theorem wp_md_tongue_d62 : decode prog_13_method_27_code 62 = .ok (.if_icmp .ge 72, 3) := wt_op162 wb19m9_prog_13_method_27_code_c2 4 rfl rfl rfl
theorem wp_md_tongue_d65 : decode prog_13_method_27_code 65 = .ok (.aload_n 0, 1) := wt_op42 wb19m9_prog_13_method_27_code_c2 7 rfl rfl
theorem wp_md_tongue_d66 : decode prog_13_method_27_code 66 = .ok (.iconst 0, 1) := wt_op3 wb19m9_prog_13_method_27_code_c2 8 rfl rfl
theorem wp_md_tongue_d67 : decode prog_13_method_27_code 67 = .ok (.invokevirtual 256, 3) := wt_op182 wb19m9_prog_13_method_27_code_c2 9 rfl rfl rfl
theorem wp_md_tongue_d70 : decode prog_13_method_27_code 70 = .ok (.aload_n 0, 1) := wt_op42 wb19m9_prog_13_method_27_code_c2 12 rfl rfl
theorem wp_md_tongue_d71 : decode prog_13_method_27_code 71 = .ok (.invokevirtual 173, 3) := wt_op182 wb19m9_prog_13_method_27_code_c2 13 rfl rfl rfl
theorem wp_md_tongue_d74 : decode prog_13_method_27_code 74 = .ok (.iconst 1, 1) := wt_op4 wb19m9_prog_13_method_27_code_c2 16 rfl rfl
theorem wp_md_tongue_d75 : decode prog_13_method_27_code 75 = .ok (.istore_n 2, 1) := wt_op61 wb19m9_prog_13_method_27_code_c2 17 rfl rfl
theorem wp_md_tongue_d76 : decode prog_13_method_27_code 76 = .ok (.aload_n 0, 1) := wt_op42 wb19m9_prog_13_method_27_code_c2 18 rfl rfl
theorem wp_md_tongue_d77 : decode prog_13_method_27_code 77 = .ok (.getfield 167, 3) := wt_op180 wb19m9_prog_13_method_27_code_c2 19 rfl rfl rfl
theorem wp_md_tongue_d80 : decode prog_13_method_27_code 80 = .ok (.ifCond .ne 41, 3) := wt_op154 wb19m9_prog_13_method_27_code_c2 22 rfl rfl rfl
theorem wp_md_tongue_d83 : decode prog_13_method_27_code 83 = .ok (.aload_n 0, 1) := wt_op42 wb19m9_prog_13_method_27_code_c2 25 rfl rfl
theorem wp_md_tongue_d84 : decode prog_13_method_27_code 84 = .ok (.aload_n 0, 1) := wt_op42 wb19m9_prog_13_method_27_code_c2 26 rfl rfl
theorem wp_md_tongue_d85 : decode prog_13_method_27_code 85 = .ok (.getfield 160, 3) := wt_op180 wb19m9_prog_13_method_27_code_c2 27 rfl rfl rfl
theorem wp_md_tongue_d88 : decode prog_13_method_27_code 88 = .ok (.invokevirtual 163, 3) := wt_op182 wb19m9_prog_13_method_27_code_c3 0 rfl rfl rfl
theorem wp_md_tongue_d91 : decode prog_13_method_27_code 91 = .ok (.bipush 44, 2) := wt_op16 wb19m9_prog_13_method_27_code_c3 3 rfl rfl rfl
theorem wp_md_tongue_d93 : decode prog_13_method_27_code 93 = .ok (.if_icmp .ne 28, 3) := wt_op160 wb19m9_prog_13_method_27_code_c3 5 rfl rfl rfl
theorem wp_md_tongue_d96 : decode prog_13_method_27_code 96 = .ok (.aload_n 0, 1) := wt_op42 wb19m9_prog_13_method_27_code_c3 8 rfl rfl
theorem wp_md_tongue_d97 : decode prog_13_method_27_code 97 = .ok (.dup, 1) := wt_op89 wb19m9_prog_13_method_27_code_c3 9 rfl rfl
theorem wp_md_tongue_d98 : decode prog_13_method_27_code 98 = .ok (.getfield 160, 3) := wt_op180 wb19m9_prog_13_method_27_code_c3 10 rfl rfl rfl
theorem wp_md_tongue_d101 : decode prog_13_method_27_code 101 = .ok (.iconst 1, 1) := wt_op4 wb19m9_prog_13_method_27_code_c3 13 rfl rfl
theorem wp_md_tongue_d102 : decode prog_13_method_27_code 102 = .ok (.iadd, 1) := wt_op96 wb19m9_prog_13_method_27_code_c3 14 rfl rfl
theorem wp_md_tongue_d103 : decode prog_13_method_27_code 103 = .ok (.putfield 160, 3) := wt_op181 wb19m9_prog_13_method_27_code_c3 15 rfl rfl rfl
theorem wp_md_tongue_d106 : decode prog_13_method_27_code 106 = .ok (.aload_n 0, 1) := wt_op42 wb19m9_prog_13_method_27_code_c3 18 rfl rfl
theorem wp_md_tongue_d107 : decode prog_13_method_27_code 107 = .ok (.iload_n 2, 1) := wt_op28 wb19m9_prog_13_method_27_code_c3 19 rfl rfl
theorem wp_md_tongue_d108 : decode prog_13_method_27_code 108 = .ok (.invokevirtual 256, 3) := wt_op182 wb19m9_prog_13_method_27_code_c3 20 rfl rfl rfl
theorem wp_md_tongue_d111 : decode prog_13_method_27_code 111 = .ok (.aload_n 0, 1) := wt_op42 wb19m9_prog_13_method_27_code_c3 23 rfl rfl
theorem wp_md_tongue_d112 : decode prog_13_method_27_code 112 = .ok (.invokevirtual 173, 3) := wt_op182 wb19m9_prog_13_method_27_code_c3 24 rfl rfl rfl
theorem wp_md_tongue_d115 : decode prog_13_method_27_code 115 = .ok (.iinc 2 1, 3) := wt_op132 wb19m9_prog_13_method_27_code_c3 27 rfl rfl rfl
theorem wp_md_tongue_d118 : decode prog_13_method_27_code 118 = .ok (.goto (-42), 3) := wt_op167 wb19m9_prog_13_method_27_code_c4 0 rfl rfl rfl
theorem wp_md_tongue_d121 : decode prog_13_method_27_code 121 = .ok (.aload_n 0, 1) := wt_op42 wb19m9_prog_13_method_27_code_c4 3 rfl rfl
theorem wp_md_tongue_d122 : decode prog_13_method_27_code 122 = .ok (.bipush 59, 2) := wt_op16 wb19m9_prog_13_method_27_code_c4 4 rfl rfl rfl
theorem wp_md_tongue_d124 : decode prog_13_method_27_code 124 = .ok (.invokevirtual 223, 3) := wt_op182 wb19m9_prog_13_method_27_code_c4 6 rfl rfl rfl
theorem wp_md_tongue_d127 : decode prog_13_method_27_code 127 = .ok (.aload_n 0, 1) := wt_op42 wb19m9_prog_13_method_27_code_c4 9 rfl rfl
theorem wp_md_tongue_d128 : decode prog_13_method_27_code 128 = .ok (.invokevirtual 173, 3) := wt_op182 wb19m9_prog_13_method_27_code_c4 10 rfl rfl rfl
theorem wp_md_tongue_d131 : decode prog_13_method_27_code 131 = .ok (.goto (-84), 3) := wt_op167 wb19m9_prog_13_method_27_code_c4 13 rfl rfl rfl
theorem wp_md_tongue_d134 : decode prog_13_method_27_code 134 = .ok (.aload_n 0, 1) := wt_op42 wb19m9_prog_13_method_27_code_c4 16 rfl rfl
theorem wp_md_tongue_d135 : decode prog_13_method_27_code 135 = .ok (.aload_n 0, 1) := wt_op42 wb19m9_prog_13_method_27_code_c4 17 rfl rfl
theorem wp_md_tongue_d136 : decode prog_13_method_27_code 136 = .ok (.getfield 170, 3) := wt_op180 wb19m9_prog_13_method_27_code_c4 18 rfl rfl rfl
theorem wp_md_tongue_d139 : decode prog_13_method_27_code 139 = .ok (.putfield 9, 3) := wt_op181 wb19m9_prog_13_method_27_code_c4 21 rfl rfl rfl
theorem wp_md_tongue_d142 : decode prog_13_method_27_code 142 = .ok (.aload_n 0, 1) := wt_op42 wb19m9_prog_13_method_27_code_c4 24 rfl rfl
theorem wp_md_tongue_d143 : decode prog_13_method_27_code 143 = .ok (.getfield 167, 3) := wt_op180 wb19m9_prog_13_method_27_code_c4 25 rfl rfl rfl
theorem wp_md_tongue_d146 : decode prog_13_method_27_code 146 = .ok (.ifCond .eq 11, 3) := wt_op153 wb19m9_prog_13_method_27_code_c5 0 rfl rfl rfl
theorem wp_md_tongue_d149 : decode prog_13_method_27_code 149 = .ok (.aload_n 0, 1) := wt_op42 wb19m9_prog_13_method_27_code_c5 3 rfl rfl
theorem wp_md_tongue_d150 : decode prog_13_method_27_code 150 = .ok (.getfield 167, 3) := wt_op180 wb19m9_prog_13_method_27_code_c5 4 rfl rfl rfl
theorem wp_md_tongue_d153 : decode prog_13_method_27_code 153 = .ok (.bipush 10, 2) := wt_op16 wb19m9_prog_13_method_27_code_c5 7 rfl rfl rfl
theorem wp_md_tongue_d155 : decode prog_13_method_27_code 155 = .ok (.isub, 1) := wt_op100 wb19m9_prog_13_method_27_code_c5 9 rfl rfl
theorem wp_md_tongue_d156 : decode prog_13_method_27_code 156 = .ok (.ireturn, 1) := wt_op172 wb19m9_prog_13_method_27_code_c5 10 rfl rfl
theorem wp_md_tongue_d157 : decode prog_13_method_27_code 157 = .ok (.aload_n 0, 1) := wt_op42 wb19m9_prog_13_method_27_code_c5 11 rfl rfl
theorem wp_md_tongue_d158 : decode prog_13_method_27_code 158 = .ok (.aload_n 0, 1) := wt_op42 wb19m9_prog_13_method_27_code_c5 12 rfl rfl
theorem wp_md_tongue_d159 : decode prog_13_method_27_code 159 = .ok (.getfield 246, 3) := wt_op180 wb19m9_prog_13_method_27_code_c5 13 rfl rfl rfl
theorem wp_md_tongue_d162 : decode prog_13_method_27_code 162 = .ok (.putfield 259, 3) := wt_op181 wb19m9_prog_13_method_27_code_c5 16 rfl rfl rfl
theorem wp_md_tongue_d165 : decode prog_13_method_27_code 165 = .ok (.aload_n 0, 1) := wt_op42 wb19m9_prog_13_method_27_code_c5 19 rfl rfl
theorem wp_md_tongue_d166 : decode prog_13_method_27_code 166 = .ok (.aload_n 0, 1) := wt_op42 wb19m9_prog_13_method_27_code_c5 20 rfl rfl
theorem wp_md_tongue_d167 : decode prog_13_method_27_code 167 = .ok (.getfield 253, 3) := wt_op180 wb19m9_prog_13_method_27_code_c5 21 rfl rfl rfl
theorem wp_md_tongue_d170 : decode prog_13_method_27_code 170 = .ok (.putfield 262, 3) := wt_op181 wb19m9_prog_13_method_27_code_c5 24 rfl rfl rfl
theorem wp_md_tongue_d173 : decode prog_13_method_27_code 173 = .ok (.iconst 0, 1) := wt_op3 wb19m9_prog_13_method_27_code_c5 27 rfl rfl
theorem wp_md_tongue_d174 : decode prog_13_method_27_code 174 = .ok (.istore_n 2, 1) := wt_op61 wb19m9_prog_13_method_27_code_c6 0 rfl rfl
theorem wp_md_tongue_d175 : decode prog_13_method_27_code 175 = .ok (.iload_n 2, 1) := wt_op28 wb19m9_prog_13_method_27_code_c6 1 rfl rfl
theorem wp_md_tongue_d176 : decode prog_13_method_27_code 176 = .ok (.aload_n 0, 1) := wt_op42 wb19m9_prog_13_method_27_code_c6 2 rfl rfl
theorem wp_md_tongue_d177 : decode prog_13_method_27_code 177 = .ok (.getfield 259, 3) := wt_op180 wb19m9_prog_13_method_27_code_c6 3 rfl rfl rfl
theorem wp_md_tongue_d180 : decode prog_13_method_27_code 180 = .ok (.if_icmp .ge 75, 3) := wt_op162 wb19m9_prog_13_method_27_code_c6 6 rfl rfl rfl
theorem wp_md_tongue_d183 : decode prog_13_method_27_code 183 = .ok (.aload_n 0, 1) := wt_op42 wb19m9_prog_13_method_27_code_c6 9 rfl rfl
theorem wp_md_tongue_d184 : decode prog_13_method_27_code 184 = .ok (.getfield 65, 3) := wt_op180 wb19m9_prog_13_method_27_code_c6 10 rfl rfl rfl
theorem wp_md_tongue_d187 : decode prog_13_method_27_code 187 = .ok (.iload_n 2, 1) := wt_op28 wb19m9_prog_13_method_27_code_c6 13 rfl rfl
theorem wp_md_tongue_d188 : decode prog_13_method_27_code 188 = .ok (.aload_n 0, 1) := wt_op42 wb19m9_prog_13_method_27_code_c6 14 rfl rfl
theorem wp_md_tongue_d189 : decode prog_13_method_27_code 189 = .ok (.getfield 62, 3) := wt_op180 wb19m9_prog_13_method_27_code_c6 15 rfl rfl rfl
theorem wp_md_tongue_d192 : decode prog_13_method_27_code 192 = .ok (.iload_n 2, 1) := wt_op28 wb19m9_prog_13_method_27_code_c6 18 rfl rfl
theorem wp_md_tongue_d193 : decode prog_13_method_27_code 193 = .ok (.iaload, 1) := wt_op46 wb19m9_prog_13_method_27_code_c6 19 rfl rfl
theorem wp_md_tongue_d194 : decode prog_13_method_27_code 194 = .ok (.iastore, 1) := wt_op79 wb19m9_prog_13_method_27_code_c6 20 rfl rfl
theorem wp_md_tongue_d195 : decode prog_13_method_27_code 195 = .ok (.aload_n 0, 1) := wt_op42 wb19m9_prog_13_method_27_code_c6 21 rfl rfl
theorem wp_md_tongue_d196 : decode prog_13_method_27_code 196 = .ok (.getfield 71, 3) := wt_op180 wb19m9_prog_13_method_27_code_c6 22 rfl rfl rfl
theorem wp_md_tongue_d199 : decode prog_13_method_27_code 199 = .ok (.iload_n 2, 1) := wt_op28 wb19m9_prog_13_method_27_code_c6 25 rfl rfl
theorem wp_md_tongue_d200 : decode prog_13_method_27_code 200 = .ok (.aload_n 0, 1) := wt_op42 wb19m9_prog_13_method_27_code_c6 26 rfl rfl
theorem wp_md_tongue_d201 : decode prog_13_method_27_code 201 = .ok (.getfield 68, 3) := wt_op180 wb19m9_prog_13_method_27_code_c6 27 rfl rfl rfl
theorem wp_md_tongue_d204 : decode prog_13_method_27_code 204 = .ok (.iload_n 2, 1) := wt_op28 wb19m9_prog_13_method_27_code_c7 0 rfl rfl
theorem wp_md_tongue_d205 : decode prog_13_method_27_code 205 = .ok (.iaload, 1) := wt_op46 wb19m9_prog_13_method_27_code_c7 1 rfl rfl
theorem wp_md_tongue_d206 : decode prog_13_method_27_code 206 = .ok (.iastore, 1) := wt_op79 wb19m9_prog_13_method_27_code_c7 2 rfl rfl
theorem wp_md_tongue_d207 : decode prog_13_method_27_code 207 = .ok (.aload_n 0, 1) := wt_op42 wb19m9_prog_13_method_27_code_c7 3 rfl rfl
theorem wp_md_tongue_d208 : decode prog_13_method_27_code 208 = .ok (.getfield 77, 3) := wt_op180 wb19m9_prog_13_method_27_code_c7 4 rfl rfl rfl
theorem wp_md_tongue_d211 : decode prog_13_method_27_code 211 = .ok (.iload_n 2, 1) := wt_op28 wb19m9_prog_13_method_27_code_c7 7 rfl rfl
theorem wp_md_tongue_d212 : decode prog_13_method_27_code 212 = .ok (.aload_n 0, 1) := wt_op42 wb19m9_prog_13_method_27_code_c7 8 rfl rfl
theorem wp_md_tongue_d213 : decode prog_13_method_27_code 213 = .ok (.getfield 74, 3) := wt_op180 wb19m9_prog_13_method_27_code_c7 9 rfl rfl rfl
theorem wp_md_tongue_d216 : decode prog_13_method_27_code 216 = .ok (.iload_n 2, 1) := wt_op28 wb19m9_prog_13_method_27_code_c7 12 rfl rfl
theorem wp_md_tongue_d217 : decode prog_13_method_27_code 217 = .ok (.iaload, 1) := wt_op46 wb19m9_prog_13_method_27_code_c7 13 rfl rfl
theorem wp_md_tongue_d218 : decode prog_13_method_27_code 218 = .ok (.iastore, 1) := wt_op79 wb19m9_prog_13_method_27_code_c7 14 rfl rfl
theorem wp_md_tongue_d219 : decode prog_13_method_27_code 219 = .ok (.iconst 0, 1) := wt_op3 wb19m9_prog_13_method_27_code_c7 15 rfl rfl
theorem wp_md_tongue_d220 : decode prog_13_method_27_code 220 = .ok (.istore_n 3, 1) := wt_op62 wb19m9_prog_13_method_27_code_c7 16 rfl rfl
theorem wp_md_tongue_d221 : decode prog_13_method_27_code 221 = .ok (.iload_n 3, 1) := wt_op29 wb19m9_prog_13_method_27_code_c7 17 rfl rfl
theorem wp_md_tongue_d222 : decode prog_13_method_27_code 222 = .ok (.bipush 9, 2) := wt_op16 wb19m9_prog_13_method_27_code_c7 18 rfl rfl rfl
theorem wp_md_tongue_d224 : decode prog_13_method_27_code 224 = .ok (.if_icmp .ge 25, 3) := wt_op162 wb19m9_prog_13_method_27_code_c7 20 rfl rfl rfl
theorem wp_md_tongue_d227 : decode prog_13_method_27_code 227 = .ok (.aload_n 0, 1) := wt_op42 wb19m9_prog_13_method_27_code_c7 23 rfl rfl
theorem wp_md_tongue_d228 : decode prog_13_method_27_code 228 = .ok (.getfield 85, 3) := wt_op180 wb19m9_prog_13_method_27_code_c7 24 rfl rfl rfl
theorem wp_md_tongue_d231 : decode prog_13_method_27_code 231 = .ok (.iload_n 2, 1) := wt_op28 wb19m9_prog_13_method_27_code_c7 27 rfl rfl
theorem wp_md_tongue_d232 : decode prog_13_method_27_code 232 = .ok (.aaload, 1) := wt_op50 wb19m9_prog_13_method_27_code_c8 0 rfl rfl
theorem wp_md_tongue_d233 : decode prog_13_method_27_code 233 = .ok (.iload_n 3, 1) := wt_op29 wb19m9_prog_13_method_27_code_c8 1 rfl rfl
theorem wp_md_tongue_d234 : decode prog_13_method_27_code 234 = .ok (.aload_n 0, 1) := wt_op42 wb19m9_prog_13_method_27_code_c8 2 rfl rfl
theorem wp_md_tongue_d235 : decode prog_13_method_27_code 235 = .ok (.getfield 82, 3) := wt_op180 wb19m9_prog_13_method_27_code_c8 3 rfl rfl rfl
theorem wp_md_tongue_d238 : decode prog_13_method_27_code 238 = .ok (.iload_n 2, 1) := wt_op28 wb19m9_prog_13_method_27_code_c8 6 rfl rfl
theorem wp_md_tongue_d239 : decode prog_13_method_27_code 239 = .ok (.aaload, 1) := wt_op50 wb19m9_prog_13_method_27_code_c8 7 rfl rfl
theorem wp_md_tongue_d240 : decode prog_13_method_27_code 240 = .ok (.iload_n 3, 1) := wt_op29 wb19m9_prog_13_method_27_code_c8 8 rfl rfl
theorem wp_md_tongue_d241 : decode prog_13_method_27_code 241 = .ok (.iaload, 1) := wt_op46 wb19m9_prog_13_method_27_code_c8 9 rfl rfl
theorem wp_md_tongue_d242 : decode prog_13_method_27_code 242 = .ok (.iastore, 1) := wt_op79 wb19m9_prog_13_method_27_code_c8 10 rfl rfl
theorem wp_md_tongue_d243 : decode prog_13_method_27_code 243 = .ok (.iinc 3 1, 3) := wt_op132 wb19m9_prog_13_method_27_code_c8 11 rfl rfl rfl
theorem wp_md_tongue_d246 : decode prog_13_method_27_code 246 = .ok (.goto (-25), 3) := wt_op167 wb19m9_prog_13_method_27_code_c8 14 rfl rfl rfl
theorem wp_md_tongue_d249 : decode prog_13_method_27_code 249 = .ok (.iinc 2 1, 3) := wt_op132 wb19m9_prog_13_method_27_code_c8 17 rfl rfl rfl
theorem wp_md_tongue_d252 : decode prog_13_method_27_code 252 = .ok (.goto (-77), 3) := wt_op167 wb19m9_prog_13_method_27_code_c8 20 rfl rfl rfl
theorem wp_md_tongue_d255 : decode prog_13_method_27_code 255 = .ok (.aload_n 0, 1) := wt_op42 wb19m9_prog_13_method_27_code_c8 23 rfl rfl
theorem wp_md_tongue_d256 : decode prog_13_method_27_code 256 = .ok (.iconst 0, 1) := wt_op3 wb19m9_prog_13_method_27_code_c8 24 rfl rfl
theorem wp_md_tongue_d257 : decode prog_13_method_27_code 257 = .ok (.putfield 265, 3) := wt_op181 wb19m9_prog_13_method_27_code_c8 25 rfl rfl rfl
theorem wp_md_tongue_d260 : decode prog_13_method_27_code 260 = .ok (.aload_n 0, 1) := wt_op42 wb19m9_prog_13_method_27_code_c9 0 rfl rfl
theorem wp_md_tongue_d261 : decode prog_13_method_27_code 261 = .ok (.iconst 0, 1) := wt_op3 wb19m9_prog_13_method_27_code_c9 1 rfl rfl
theorem wp_md_tongue_d262 : decode prog_13_method_27_code 262 = .ok (.putfield 268, 3) := wt_op181 wb19m9_prog_13_method_27_code_c9 2 rfl rfl rfl
theorem wp_md_tongue_d265 : decode prog_13_method_27_code 265 = .ok (.aload_n 0, 1) := wt_op42 wb19m9_prog_13_method_27_code_c9 5 rfl rfl
theorem wp_md_tongue_d266 : decode prog_13_method_27_code 266 = .ok (.iconst 0, 1) := wt_op3 wb19m9_prog_13_method_27_code_c9 6 rfl rfl
theorem wp_md_tongue_d267 : decode prog_13_method_27_code 267 = .ok (.putfield 240, 3) := wt_op181 wb19m9_prog_13_method_27_code_c9 7 rfl rfl rfl
theorem wp_md_tongue_d270 : decode prog_13_method_27_code 270 = .ok (.iconst 0, 1) := wt_op3 wb19m9_prog_13_method_27_code_c9 10 rfl rfl
theorem wp_md_tongue_d271 : decode prog_13_method_27_code 271 = .ok (.istore_n 2, 1) := wt_op61 wb19m9_prog_13_method_27_code_c9 11 rfl rfl
theorem wp_md_tongue_d272 : decode prog_13_method_27_code 272 = .ok (.iload_n 2, 1) := wt_op28 wb19m9_prog_13_method_27_code_c9 12 rfl rfl
theorem wp_md_tongue_d273 : decode prog_13_method_27_code 273 = .ok (.iconst 4, 1) := wt_op7 wb19m9_prog_13_method_27_code_c9 13 rfl rfl
theorem wp_md_tongue_d274 : decode prog_13_method_27_code 274 = .ok (.if_icmp .ge 24, 3) := wt_op162 wb19m9_prog_13_method_27_code_c9 14 rfl rfl rfl
theorem wp_md_tongue_d277 : decode prog_13_method_27_code 277 = .ok (.aload_n 0, 1) := wt_op42 wb19m9_prog_13_method_27_code_c9 17 rfl rfl
theorem wp_md_tongue_d278 : decode prog_13_method_27_code 278 = .ok (.getfield 100, 3) := wt_op180 wb19m9_prog_13_method_27_code_c9 18 rfl rfl rfl
theorem wp_md_tongue_d281 : decode prog_13_method_27_code 281 = .ok (.iload_n 2, 1) := wt_op28 wb19m9_prog_13_method_27_code_c9 21 rfl rfl
theorem wp_md_tongue_d282 : decode prog_13_method_27_code 282 = .ok (.iaload, 1) := wt_op46 wb19m9_prog_13_method_27_code_c9 22 rfl rfl
theorem wp_md_tongue_d283 : decode prog_13_method_27_code 283 = .ok (.iconst (-1), 1) := wt_op2 wb19m9_prog_13_method_27_code_c9 23 rfl rfl
theorem wp_md_tongue_d284 : decode prog_13_method_27_code 284 = .ok (.if_icmp .eq 8, 3) := wt_op159 wb19m9_prog_13_method_27_code_c9 24 rfl rfl rfl
theorem wp_md_tongue_d287 : decode prog_13_method_27_code 287 = .ok (.aload_n 0, 1) := wt_op42 wb19m9_prog_13_method_27_code_c9 27 rfl rfl
theorem wp_md_tongue_d288 : decode prog_13_method_27_code 288 = .ok (.iload_n 2, 1) := wt_op28 wb19m9_prog_13_method_27_code_c10 0 rfl rfl
theorem wp_md_tongue_d289 : decode prog_13_method_27_code 289 = .ok (.invokevirtual 271, 3) := wt_op182 wb19m9_prog_13_method_27_code_c10 1 rfl rfl rfl
theorem wp_md_tongue_d292 : decode prog_13_method_27_code 292 = .ok (.iinc 2 1, 3) := wt_op132 wb19m9_prog_13_method_27_code_c10 4 rfl rfl rfl
theorem wp_md_tongue_d295 : decode prog_13_method_27_code 295 = .ok (.goto (-23), 3) := wt_op167 wb19m9_prog_13_method_27_code_c10 7 rfl rfl rfl
theorem wp_md_tongue_d298 : decode prog_13_method_27_code 298 = .ok (.aload_n 0, 1) := wt_op42 wb19m9_prog_13_method_27_code_c10 10 rfl rfl
theorem wp_md_tongue_d299 : decode prog_13_method_27_code 299 = .ok (.getfield 259, 3) := wt_op180 wb19m9_prog_13_method_27_code_c10 11 rfl rfl rfl
theorem wp_md_tongue_d302 : decode prog_13_method_27_code 302 = .ok (.ireturn, 1) := wt_op172 wb19m9_prog_13_method_27_code_c10 14 rfl rfl
noncomputable def wp_md_tongue_B292 (n : Nat) (x2 : Int32) (K272 : Int32 × wt_St → Option (Int32 × wt_St)) (σ : wt_St) : Option (Int32 × wt_St) :=
  K272 ((x2 + (1 : Int32)), σ)
set_option maxRecDepth 100000 in
set_option maxHeartbeats 4000000 in
theorem wp_md_tongue_B292_ok  {x2 : Int32} {X : wt_X} {n : Nat} {res : Int32 × wt_St} (hE : wt_Ok X prog_13_method_27_code 4 "WornTypeModel" 4 0) (hR : wt_Rt X (some .int) (some res.1) res.2) (hD : ∀ i, 108 ≤ i → i < 321 → wt_dom (wt_xw X) i)  {K272 : Int32 × wt_St → Option (Int32 × wt_St)} (hK272 : ∀ s : Int32 × wt_St, K272 s = some res → wt_V X 0 s.2 272 [some (.ref (wt_ad (wt_xw X) 108)), none, some (.int s.1), none] []) {σ : wt_St} (h : wp_md_tongue_B292 n x2 K272 σ = some res) : wt_V X 0 σ 292 [some (.ref (wt_ad (wt_xw X) 108)), none, some (.int x2), none] [] := by
  unfold wp_md_tongue_B292 at h
  refine wt_iinc hE (x2 + (1 : Int32)) [some (.ref (wt_ad (wt_xw X) 108)), none, some (.int (x2 + (1 : Int32))), none] wp_md_tongue_d292 (by decide) rfl rfl rfl ?_
  refine wt_goto hE 272 wp_md_tongue_d295 rfl ?_
  exact hK272 ((x2 + (1 : Int32)), σ) h
noncomputable def wp_md_tongue_B272 (n : Nat) (K272 : Int32 × wt_St → Option (Int32 × wt_St)) (s : Int32 × wt_St) : Option (Int32 × wt_St) :=
  if (4 : Int32) ≤ s.1 then
    some ((wt_gf s.2 108 28), s.2)
  else
    if s.1 < 0 ∨ 4 ≤ Int32.toNatClampNeg s.1 then none else
    if (wt_ga s.2 275 (Int32.toNatClampNeg s.1)) = (-1 : Int32) then
      wp_md_tongue_B292 n s.1 K272 s.2
    else
      (wp_md_takesApart n s.1 s.2).bind fun q12 =>
      wp_md_tongue_B292 n s.1 K272 q12
set_option maxRecDepth 100000 in
set_option maxHeartbeats 4000000 in
theorem wp_md_tongue_B272_ok  {X : wt_X} {n : Nat} {res : Int32 × wt_St} (hE : wt_Ok X prog_13_method_27_code 4 "WornTypeModel" 4 0) (hR : wt_Rt X (some .int) (some res.1) res.2) (hD : ∀ i, 108 ≤ i → i < 321 → wt_dom (wt_xw X) i)  {K272 : Int32 × wt_St → Option (Int32 × wt_St)} (hK272 : ∀ s : Int32 × wt_St, K272 s = some res → wt_V X 0 s.2 272 [some (.ref (wt_ad (wt_xw X) 108)), none, some (.int s.1), none] []) {s : Int32 × wt_St} (h : wp_md_tongue_B272 n K272 s = some res) : wt_V X 0 s.2 272 [some (.ref (wt_ad (wt_xw X) 108)), none, some (.int s.1), none] [] := by
  unfold wp_md_tongue_B272 at h
  refine wt_iload_n hE wp_md_tongue_d272 rfl ?_
  refine wt_iconst hE (4 : Int32) wp_md_tongue_d273 wt_ci_4 ?_
  refine wt_icmp_ge hE 298 wp_md_tongue_d274 rfl (fun c9 => ?_) (fun c9 => ?_)
  · have h := wt_ip c9 h
    refine wt_aload_n hE wp_md_tongue_d298 rfl ?_
    refine wt_geti hE wt_lf_md_259 (hD 108 (by decide) (by decide)) wt_L108 rfl wp_md_tongue_d299 ?_
    cases h
    exact wt_iret hE hR wp_md_tongue_d302
  · have h := wt_in c9 h
    refine wt_aload_n hE wp_md_tongue_d277 rfl ?_
    refine wt_getr hE (r := 275) wt_lf_md_100 (hD 108 (by decide) (by decide)) wt_L108 rfl wp_md_tongue_d278 ?_
    refine wt_iload_n hE wp_md_tongue_d281 rfl ?_
    obtain ⟨g10, h⟩ := wt_gd h
    refine wt_iald hE (hD 275 (by decide) (by decide)) wt_L275 g10 wp_md_tongue_d282 ?_
    refine wt_iconst hE (-1 : Int32) wp_md_tongue_d283 wt_ci_m1 ?_
    refine wt_icmp_eq hE 292 wp_md_tongue_d284 rfl (fun c11 => ?_) (fun c11 => ?_)
    · have h := wt_ip c11 h
      exact wp_md_tongue_B292_ok hE hR hD hK272 h
    · have h := wt_in c11 h
      refine wt_aload_n hE wp_md_tongue_d287 rfl ?_
      refine wt_iload_n hE wp_md_tongue_d288 rfl ?_
      obtain ⟨q12, hq12, h⟩ := wt_bi h
      refine wt_callVv hE [.int s.1] wt_lm_md_271 wt_ya_md_takesApart (wp_md_takesApart_ok hD hq12) (by omega) (hD 108 (by decide) (by decide)) wt_L108 rfl rfl rfl (Nat.le_of_ble_eq_true rfl) (Nat.zero_le _) wp_md_tongue_d289 ?_
      exact wp_md_tongue_B292_ok hE hR hD hK272 h
noncomputable def wp_md_tongue_B221 (n : Nat) (x2 : Int32) (K175 : Int32 × wt_St → Option (Int32 × wt_St)) (K221 : Int32 × wt_St → Option (Int32 × wt_St)) (s : Int32 × wt_St) : Option (Int32 × wt_St) :=
  if (9 : Int32) ≤ s.1 then
    K175 ((x2 + (1 : Int32)), s.2)
  else
    if x2 < 0 ∨ 60 ≤ Int32.toNatClampNeg x2 then none else
    if x2 < 0 ∨ 60 ≤ Int32.toNatClampNeg x2 then none else
    if s.1 < 0 ∨ 9 ≤ Int32.toNatClampNeg s.1 then none else
    if s.1 < 0 ∨ 9 ≤ Int32.toNatClampNeg s.1 then none else
    K221 ((s.1 + (1 : Int32)), (wt_sa s.2 (193 + Int32.toNatClampNeg x2) (Int32.toNatClampNeg s.1) (wt_ga s.2 (132 + Int32.toNatClampNeg x2) (Int32.toNatClampNeg s.1))))
set_option maxRecDepth 100000 in
set_option maxHeartbeats 4000000 in
theorem wp_md_tongue_B221_ok  {x2 : Int32} {X : wt_X} {n : Nat} {res : Int32 × wt_St} (hE : wt_Ok X prog_13_method_27_code 4 "WornTypeModel" 4 0) (hR : wt_Rt X (some .int) (some res.1) res.2) (hD : ∀ i, 108 ≤ i → i < 321 → wt_dom (wt_xw X) i)  {K175 : Int32 × wt_St → Option (Int32 × wt_St)} (hK175 : ∀ s : Int32 × wt_St, K175 s = some res → wt_V X 0 s.2 175 [some (.ref (wt_ad (wt_xw X) 108)), none, some (.int s.1), none] []) {K221 : Int32 × wt_St → Option (Int32 × wt_St)} (hK221 : ∀ s : Int32 × wt_St, K221 s = some res → wt_V X 0 s.2 221 [some (.ref (wt_ad (wt_xw X) 108)), none, some (.int x2), some (.int s.1)] []) {s : Int32 × wt_St} (h : wp_md_tongue_B221 n x2 K175 K221 s = some res) : wt_V X 0 s.2 221 [some (.ref (wt_ad (wt_xw X) 108)), none, some (.int x2), some (.int s.1)] [] := by
  unfold wp_md_tongue_B221 at h
  refine wt_iload_n hE wp_md_tongue_d221 rfl ?_
  refine wt_bipush hE (9 : Int32) wp_md_tongue_d222 wt_cb_9 ?_
  refine wt_icmp_ge hE 249 wp_md_tongue_d224 rfl (fun c19 => ?_) (fun c19 => ?_)
  · have h := wt_ip c19 h
    refine wt_iinc hE (x2 + (1 : Int32)) [some (.ref (wt_ad (wt_xw X) 108)), none, some (.int (x2 + (1 : Int32))), some (.int s.1)] wp_md_tongue_d249 (by decide) rfl rfl rfl ?_
    refine wt_goto hE 175 wp_md_tongue_d252 rfl ?_
    refine wt_wk [true, true, true, false] rfl ?_
    exact hK175 ((x2 + (1 : Int32)), s.2) h
  · have h := wt_in c19 h
    refine wt_aload_n hE wp_md_tongue_d227 rfl ?_
    refine wt_getr hE (r := 192) wt_lf_md_85 (hD 108 (by decide) (by decide)) wt_L108 rfl wp_md_tongue_d228 ?_
    refine wt_iload_n hE wp_md_tongue_d231 rfl ?_
    obtain ⟨g20, h⟩ := wt_gd h
    have lg20 := wt_lt g20
    refine wt_aald1 hE (hD 192 (by decide) (by decide)) wt_L192 g20 wp_md_tongue_d232 ?_
    refine wt_iload_n hE wp_md_tongue_d233 rfl ?_
    refine wt_aload_n hE wp_md_tongue_d234 rfl ?_
    refine wt_getr hE (r := 131) wt_lf_md_82 (hD 108 (by decide) (by decide)) wt_L108 rfl wp_md_tongue_d235 ?_
    refine wt_iload_n hE wp_md_tongue_d238 rfl ?_
    obtain ⟨g21, h⟩ := wt_gd h
    have lg21 := wt_lt g21
    refine wt_aald1 hE (hD 131 (by decide) (by decide)) wt_L131 g21 wp_md_tongue_d239 ?_
    refine wt_iload_n hE wp_md_tongue_d240 rfl ?_
    obtain ⟨g22, h⟩ := wt_gd h
    refine wt_iald hE (hD _ (by omega) (by omega)) (wt_G132 _ lg21) g22 wp_md_tongue_d241 ?_
    obtain ⟨g23, h⟩ := wt_gd h
    refine wt_iast hE (hD _ (by omega) (by omega)) (wt_G193 _ lg20) g23 wp_md_tongue_d242 ?_
    refine wt_iinc hE (s.1 + (1 : Int32)) [some (.ref (wt_ad (wt_xw X) 108)), none, some (.int x2), some (.int (s.1 + (1 : Int32)))] wp_md_tongue_d243 (by decide) rfl rfl rfl ?_
    refine wt_goto hE 221 wp_md_tongue_d246 rfl ?_
    exact hK221 ((s.1 + (1 : Int32)), (wt_sa s.2 (193 + Int32.toNatClampNeg x2) (Int32.toNatClampNeg s.1) (wt_ga s.2 (132 + Int32.toNatClampNeg x2) (Int32.toNatClampNeg s.1)))) h
noncomputable def wp_md_tongue_B175 (n : Nat) (K175 : Int32 × wt_St → Option (Int32 × wt_St)) (s : Int32 × wt_St) : Option (Int32 × wt_St) :=
  if (wt_gf s.2 108 28) ≤ s.1 then
    wt_it (wp_md_tongue_B272 n) n ((0 : Int32), (wt_sf (wt_sf (wt_sf s.2 108 39 (0 : Int32)) 108 40 (0 : Int32)) 108 41 (0 : Int32)))
  else
    if s.1 < 0 ∨ 60 ≤ Int32.toNatClampNeg s.1 then none else
    if s.1 < 0 ∨ 60 ≤ Int32.toNatClampNeg s.1 then none else
    if s.1 < 0 ∨ 60 ≤ Int32.toNatClampNeg s.1 then none else
    if s.1 < 0 ∨ 60 ≤ Int32.toNatClampNeg s.1 then none else
    if s.1 < 0 ∨ 61 ≤ Int32.toNatClampNeg s.1 then none else
    if s.1 < 0 ∨ 61 ≤ Int32.toNatClampNeg s.1 then none else
    wt_it (wp_md_tongue_B221 n s.1 K175) n ((0 : Int32), (wt_sa (wt_sa (wt_sa s.2 126 (Int32.toNatClampNeg s.1) (wt_ga s.2 125 (Int32.toNatClampNeg s.1))) 128 (Int32.toNatClampNeg s.1) (wt_ga (wt_sa s.2 126 (Int32.toNatClampNeg s.1) (wt_ga s.2 125 (Int32.toNatClampNeg s.1))) 127 (Int32.toNatClampNeg s.1))) 130 (Int32.toNatClampNeg s.1) (wt_ga (wt_sa (wt_sa s.2 126 (Int32.toNatClampNeg s.1) (wt_ga s.2 125 (Int32.toNatClampNeg s.1))) 128 (Int32.toNatClampNeg s.1) (wt_ga (wt_sa s.2 126 (Int32.toNatClampNeg s.1) (wt_ga s.2 125 (Int32.toNatClampNeg s.1))) 127 (Int32.toNatClampNeg s.1))) 129 (Int32.toNatClampNeg s.1))))
set_option maxRecDepth 100000 in
set_option maxHeartbeats 4000000 in
theorem wp_md_tongue_B175_ok  {X : wt_X} {n : Nat} {res : Int32 × wt_St} (hE : wt_Ok X prog_13_method_27_code 4 "WornTypeModel" 4 0) (hR : wt_Rt X (some .int) (some res.1) res.2) (hD : ∀ i, 108 ≤ i → i < 321 → wt_dom (wt_xw X) i)  {K175 : Int32 × wt_St → Option (Int32 × wt_St)} (hK175 : ∀ s : Int32 × wt_St, K175 s = some res → wt_V X 0 s.2 175 [some (.ref (wt_ad (wt_xw X) 108)), none, some (.int s.1), none] []) {s : Int32 × wt_St} (h : wp_md_tongue_B175 n K175 s = some res) : wt_V X 0 s.2 175 [some (.ref (wt_ad (wt_xw X) 108)), none, some (.int s.1), none] [] := by
  unfold wp_md_tongue_B175 at h
  refine wt_iload_n hE wp_md_tongue_d175 rfl ?_
  refine wt_aload_n hE wp_md_tongue_d176 rfl ?_
  refine wt_geti hE wt_lf_md_259 (hD 108 (by decide) (by decide)) wt_L108 rfl wp_md_tongue_d177 ?_
  refine wt_icmp_ge hE 255 wp_md_tongue_d180 rfl (fun c8 => ?_) (fun c8 => ?_)
  · have h := wt_ip c8 h
    refine wt_aload_n hE wp_md_tongue_d255 rfl ?_
    refine wt_iconst hE (0 : Int32) wp_md_tongue_d256 wt_ci_0 ?_
    refine wt_puti hE wt_lf_md_265 (hD 108 (by decide) (by decide)) wt_L108 rfl (fun q hq => by cases hq; rfl) wp_md_tongue_d257 ?_
    refine wt_aload_n hE wp_md_tongue_d260 rfl ?_
    refine wt_iconst hE (0 : Int32) wp_md_tongue_d261 wt_ci_0 ?_
    refine wt_puti hE wt_lf_md_268 (hD 108 (by decide) (by decide)) wt_L108 rfl (fun q hq => by cases hq; rfl) wp_md_tongue_d262 ?_
    refine wt_aload_n hE wp_md_tongue_d265 rfl ?_
    refine wt_iconst hE (0 : Int32) wp_md_tongue_d266 wt_ci_0 ?_
    refine wt_puti hE wt_lf_md_240 (hD 108 (by decide) (by decide)) wt_L108 rfl (fun q hq => by cases hq; rfl) wp_md_tongue_d267 ?_
    refine wt_iconst hE (0 : Int32) wp_md_tongue_d270 wt_ci_0 ?_
    refine wt_istore_n hE [some (.ref (wt_ad (wt_xw X) 108)), none, some (.int (0 : Int32)), none] wp_md_tongue_d271 (by decide) rfl ?_
    exact wt_it_ind (fun z => wt_V X 0 z.2 272 [some (.ref (wt_ad (wt_xw X) 108)), none, some (.int z.1), none] []) (fun K hK z h => wp_md_tongue_B272_ok hE hR hD hK h) n ((0 : Int32), (wt_sf (wt_sf (wt_sf s.2 108 39 (0 : Int32)) 108 40 (0 : Int32)) 108 41 (0 : Int32))) h
  · have h := wt_in c8 h
    refine wt_aload_n hE wp_md_tongue_d183 rfl ?_
    refine wt_getr hE (r := 126) wt_lf_md_65 (hD 108 (by decide) (by decide)) wt_L108 rfl wp_md_tongue_d184 ?_
    refine wt_iload_n hE wp_md_tongue_d187 rfl ?_
    refine wt_aload_n hE wp_md_tongue_d188 rfl ?_
    refine wt_getr hE (r := 125) wt_lf_md_62 (hD 108 (by decide) (by decide)) wt_L108 rfl wp_md_tongue_d189 ?_
    refine wt_iload_n hE wp_md_tongue_d192 rfl ?_
    obtain ⟨g13, h⟩ := wt_gd h
    refine wt_iald hE (hD 125 (by decide) (by decide)) wt_L125 g13 wp_md_tongue_d193 ?_
    obtain ⟨g14, h⟩ := wt_gd h
    refine wt_iast hE (hD 126 (by decide) (by decide)) wt_L126 g14 wp_md_tongue_d194 ?_
    refine wt_aload_n hE wp_md_tongue_d195 rfl ?_
    refine wt_getr hE (r := 128) wt_lf_md_71 (hD 108 (by decide) (by decide)) wt_L108 rfl wp_md_tongue_d196 ?_
    refine wt_iload_n hE wp_md_tongue_d199 rfl ?_
    refine wt_aload_n hE wp_md_tongue_d200 rfl ?_
    refine wt_getr hE (r := 127) wt_lf_md_68 (hD 108 (by decide) (by decide)) wt_L108 rfl wp_md_tongue_d201 ?_
    refine wt_iload_n hE wp_md_tongue_d204 rfl ?_
    obtain ⟨g15, h⟩ := wt_gd h
    refine wt_iald hE (hD 127 (by decide) (by decide)) wt_L127 g15 wp_md_tongue_d205 ?_
    obtain ⟨g16, h⟩ := wt_gd h
    refine wt_iast hE (hD 128 (by decide) (by decide)) wt_L128 g16 wp_md_tongue_d206 ?_
    refine wt_aload_n hE wp_md_tongue_d207 rfl ?_
    refine wt_getr hE (r := 130) wt_lf_md_77 (hD 108 (by decide) (by decide)) wt_L108 rfl wp_md_tongue_d208 ?_
    refine wt_iload_n hE wp_md_tongue_d211 rfl ?_
    refine wt_aload_n hE wp_md_tongue_d212 rfl ?_
    refine wt_getr hE (r := 129) wt_lf_md_74 (hD 108 (by decide) (by decide)) wt_L108 rfl wp_md_tongue_d213 ?_
    refine wt_iload_n hE wp_md_tongue_d216 rfl ?_
    obtain ⟨g17, h⟩ := wt_gd h
    refine wt_iald hE (hD 129 (by decide) (by decide)) wt_L129 g17 wp_md_tongue_d217 ?_
    obtain ⟨g18, h⟩ := wt_gd h
    refine wt_iast hE (hD 130 (by decide) (by decide)) wt_L130 g18 wp_md_tongue_d218 ?_
    refine wt_iconst hE (0 : Int32) wp_md_tongue_d219 wt_ci_0 ?_
    refine wt_istore_n hE [some (.ref (wt_ad (wt_xw X) 108)), none, some (.int s.1), some (.int (0 : Int32))] wp_md_tongue_d220 (by decide) rfl ?_
    exact wt_it_ind (fun z => wt_V X 0 z.2 221 [some (.ref (wt_ad (wt_xw X) 108)), none, some (.int s.1), some (.int z.1)] []) (fun K hK z h => wp_md_tongue_B221_ok hE hR hD hK175 hK h) n ((0 : Int32), (wt_sa (wt_sa (wt_sa s.2 126 (Int32.toNatClampNeg s.1) (wt_ga s.2 125 (Int32.toNatClampNeg s.1))) 128 (Int32.toNatClampNeg s.1) (wt_ga (wt_sa s.2 126 (Int32.toNatClampNeg s.1) (wt_ga s.2 125 (Int32.toNatClampNeg s.1))) 127 (Int32.toNatClampNeg s.1))) 130 (Int32.toNatClampNeg s.1) (wt_ga (wt_sa (wt_sa s.2 126 (Int32.toNatClampNeg s.1) (wt_ga s.2 125 (Int32.toNatClampNeg s.1))) 128 (Int32.toNatClampNeg s.1) (wt_ga (wt_sa s.2 126 (Int32.toNatClampNeg s.1) (wt_ga s.2 125 (Int32.toNatClampNeg s.1))) 127 (Int32.toNatClampNeg s.1))) 129 (Int32.toNatClampNeg s.1)))) h
noncomputable def wp_md_tongue_B134 (n : Nat) (σ : wt_St) : Option (Int32 × wt_St) :=
  if (wt_gf (wt_sf σ 108 3 (wt_gf σ 108 6)) 108 5) = 0 then
    wt_it (wp_md_tongue_B175 n) n ((0 : Int32), (wt_sf (wt_sf (wt_sf σ 108 3 (wt_gf σ 108 6)) 108 28 (wt_gf (wt_sf σ 108 3 (wt_gf σ 108 6)) 108 27)) 108 30 (wt_gf (wt_sf (wt_sf σ 108 3 (wt_gf σ 108 6)) 108 28 (wt_gf (wt_sf σ 108 3 (wt_gf σ 108 6)) 108 27)) 108 29)))
  else
    some (((wt_gf (wt_sf σ 108 3 (wt_gf σ 108 6)) 108 5) - (10 : Int32)), (wt_sf σ 108 3 (wt_gf σ 108 6)))
set_option maxRecDepth 100000 in
set_option maxHeartbeats 4000000 in
theorem wp_md_tongue_B134_ok  {X : wt_X} {n : Nat} {res : Int32 × wt_St} (hE : wt_Ok X prog_13_method_27_code 4 "WornTypeModel" 4 0) (hR : wt_Rt X (some .int) (some res.1) res.2) (hD : ∀ i, 108 ≤ i → i < 321 → wt_dom (wt_xw X) i)  {σ : wt_St} (h : wp_md_tongue_B134 n σ = some res) : wt_V X 0 σ 134 [some (.ref (wt_ad (wt_xw X) 108)), none, none, none] [] := by
  unfold wp_md_tongue_B134 at h
  refine wt_aload_n hE wp_md_tongue_d134 rfl ?_
  refine wt_aload_n hE wp_md_tongue_d135 rfl ?_
  refine wt_geti hE wt_lf_md_170 (hD 108 (by decide) (by decide)) wt_L108 rfl wp_md_tongue_d136 ?_
  refine wt_puti hE wt_lf_md_9 (hD 108 (by decide) (by decide)) wt_L108 rfl (fun q hq => by cases hq; rfl) wp_md_tongue_d139 ?_
  refine wt_aload_n hE wp_md_tongue_d142 rfl ?_
  refine wt_geti hE wt_lf_md_167 (hD 108 (by decide) (by decide)) wt_L108 rfl wp_md_tongue_d143 ?_
  refine wt_if_eq hE 157 wp_md_tongue_d146 rfl (fun c7 => ?_) (fun c7 => ?_)
  · have h := wt_ip c7 h
    refine wt_aload_n hE wp_md_tongue_d157 rfl ?_
    refine wt_aload_n hE wp_md_tongue_d158 rfl ?_
    refine wt_geti hE wt_lf_md_246 (hD 108 (by decide) (by decide)) wt_L108 rfl wp_md_tongue_d159 ?_
    refine wt_puti hE wt_lf_md_259 (hD 108 (by decide) (by decide)) wt_L108 rfl (fun q hq => by cases hq; rfl) wp_md_tongue_d162 ?_
    refine wt_aload_n hE wp_md_tongue_d165 rfl ?_
    refine wt_aload_n hE wp_md_tongue_d166 rfl ?_
    refine wt_geti hE wt_lf_md_253 (hD 108 (by decide) (by decide)) wt_L108 rfl wp_md_tongue_d167 ?_
    refine wt_puti hE wt_lf_md_262 (hD 108 (by decide) (by decide)) wt_L108 rfl (fun q hq => by cases hq; rfl) wp_md_tongue_d170 ?_
    refine wt_iconst hE (0 : Int32) wp_md_tongue_d173 wt_ci_0 ?_
    refine wt_istore_n hE [some (.ref (wt_ad (wt_xw X) 108)), none, some (.int (0 : Int32)), none] wp_md_tongue_d174 (by decide) rfl ?_
    exact wt_it_ind (fun z => wt_V X 0 z.2 175 [some (.ref (wt_ad (wt_xw X) 108)), none, some (.int z.1), none] []) (fun K hK z h => wp_md_tongue_B175_ok hE hR hD hK h) n ((0 : Int32), (wt_sf (wt_sf (wt_sf σ 108 3 (wt_gf σ 108 6)) 108 28 (wt_gf (wt_sf σ 108 3 (wt_gf σ 108 6)) 108 27)) 108 30 (wt_gf (wt_sf (wt_sf σ 108 3 (wt_gf σ 108 6)) 108 28 (wt_gf (wt_sf σ 108 3 (wt_gf σ 108 6)) 108 27)) 108 29))) h
  · have h := wt_in c7 h
    refine wt_aload_n hE wp_md_tongue_d149 rfl ?_
    refine wt_geti hE wt_lf_md_167 (hD 108 (by decide) (by decide)) wt_L108 rfl wp_md_tongue_d150 ?_
    refine wt_bipush hE (10 : Int32) wp_md_tongue_d153 wt_cb_10 ?_
    refine wt_isub hE wp_md_tongue_d155 ?_
    cases h
    exact wt_iret hE hR wp_md_tongue_d156
noncomputable def wp_md_tongue_B121 (n : Nat) (K47 : wt_St → Option (Int32 × wt_St)) (σ : wt_St) : Option (Int32 × wt_St) :=
  (wp_md_closes n (59 : Int32) σ).bind fun q28 =>
  (wp_md_blanks n q28).bind fun q29 =>
  K47 q29
set_option maxRecDepth 100000 in
set_option maxHeartbeats 4000000 in
theorem wp_md_tongue_B121_ok  {X : wt_X} {n : Nat} {res : Int32 × wt_St} (hE : wt_Ok X prog_13_method_27_code 4 "WornTypeModel" 4 0) (hR : wt_Rt X (some .int) (some res.1) res.2) (hD : ∀ i, 108 ≤ i → i < 321 → wt_dom (wt_xw X) i)  {K47 : wt_St → Option (Int32 × wt_St)} (hK47 : ∀ s : wt_St, K47 s = some res → wt_V X 0 s 47 [some (.ref (wt_ad (wt_xw X) 108)), none, none, none] []) {σ : wt_St} (h : wp_md_tongue_B121 n K47 σ = some res) : wt_V X 0 σ 121 [some (.ref (wt_ad (wt_xw X) 108)), none, none, none] [] := by
  unfold wp_md_tongue_B121 at h
  refine wt_aload_n hE wp_md_tongue_d121 rfl ?_
  refine wt_bipush hE (59 : Int32) wp_md_tongue_d122 wt_cb_59 ?_
  obtain ⟨q28, hq28, h⟩ := wt_bi h
  refine wt_callVv hE [.int (59 : Int32)] wt_lm_md_223 wt_ya_md_closes (wp_md_closes_ok hD hq28) (by omega) (hD 108 (by decide) (by decide)) wt_L108 rfl rfl rfl (Nat.le_of_ble_eq_true rfl) (Nat.zero_le _) wp_md_tongue_d124 ?_
  refine wt_aload_n hE wp_md_tongue_d127 rfl ?_
  obtain ⟨q29, hq29, h⟩ := wt_bi h
  refine wt_callVv hE [] wt_lm_md_173 wt_ya_md_blanks (wp_md_blanks_ok hD hq29) (by omega) (hD 108 (by decide) (by decide)) wt_L108 rfl rfl rfl (Nat.le_of_ble_eq_true rfl) (Nat.zero_le _) wp_md_tongue_d128 ?_
  refine wt_goto hE 47 wp_md_tongue_d131 rfl ?_
  exact hK47 q29 h
noncomputable def wp_md_tongue_B76 (n : Nat) (K47 : wt_St → Option (Int32 × wt_St)) (K76 : Int32 × wt_St → Option (Int32 × wt_St)) (s : Int32 × wt_St) : Option (Int32 × wt_St) :=
  if (wt_gf s.2 108 5) = 0 then
    (wp_md_byteAt n (wt_gf s.2 108 4) s.2).bind fun q30 =>
    if q30.1 = (44 : Int32) then
      (wp_md_reads n s.1 (wt_sf q30.2 108 4 ((wt_gf q30.2 108 4) + (1 : Int32)))).bind fun q32 =>
      (wp_md_blanks n q32).bind fun q33 =>
      K76 ((s.1 + (1 : Int32)), q33)
    else
      wp_md_tongue_B121 n K47 q30.2
  else
    wp_md_tongue_B121 n K47 s.2
set_option maxRecDepth 100000 in
set_option maxHeartbeats 4000000 in
theorem wp_md_tongue_B76_ok  {X : wt_X} {n : Nat} {res : Int32 × wt_St} (hE : wt_Ok X prog_13_method_27_code 4 "WornTypeModel" 4 0) (hR : wt_Rt X (some .int) (some res.1) res.2) (hD : ∀ i, 108 ≤ i → i < 321 → wt_dom (wt_xw X) i)  {K47 : wt_St → Option (Int32 × wt_St)} (hK47 : ∀ s : wt_St, K47 s = some res → wt_V X 0 s 47 [some (.ref (wt_ad (wt_xw X) 108)), none, none, none] []) {K76 : Int32 × wt_St → Option (Int32 × wt_St)} (hK76 : ∀ s : Int32 × wt_St, K76 s = some res → wt_V X 0 s.2 76 [some (.ref (wt_ad (wt_xw X) 108)), none, some (.int s.1), none] []) {s : Int32 × wt_St} (h : wp_md_tongue_B76 n K47 K76 s = some res) : wt_V X 0 s.2 76 [some (.ref (wt_ad (wt_xw X) 108)), none, some (.int s.1), none] [] := by
  unfold wp_md_tongue_B76 at h
  refine wt_aload_n hE wp_md_tongue_d76 rfl ?_
  refine wt_geti hE wt_lf_md_167 (hD 108 (by decide) (by decide)) wt_L108 rfl wp_md_tongue_d77 ?_
  refine wt_if_ne hE 121 wp_md_tongue_d80 rfl (fun c27 => ?_) (fun c27 => ?_)
  · have h := wt_in c27 h
    refine wt_wk [true, true, false, true] rfl ?_
    exact wp_md_tongue_B121_ok hE hR hD hK47 h
  · have h := wt_ip c27 h
    refine wt_aload_n hE wp_md_tongue_d83 rfl ?_
    refine wt_aload_n hE wp_md_tongue_d84 rfl ?_
    refine wt_geti hE wt_lf_md_160 (hD 108 (by decide) (by decide)) wt_L108 rfl wp_md_tongue_d85 ?_
    obtain ⟨q30, hq30, h⟩ := wt_bi h
    refine wt_callVi hE [.int (wt_gf s.2 108 4)] wt_lm_md_163 wt_ya_md_byteAt (wp_md_byteAt_ok hD hq30) (by omega) (hD 108 (by decide) (by decide)) wt_L108 rfl rfl rfl (Nat.le_of_ble_eq_true rfl) (Nat.zero_le _) wp_md_tongue_d88 (fun hbq30 => ?_)
    refine wt_bipush hE (44 : Int32) wp_md_tongue_d91 wt_cb_44 ?_
    refine wt_icmp_ne hE 121 wp_md_tongue_d93 rfl (fun c31 => ?_) (fun c31 => ?_)
    · have h := wt_in c31 h
      refine wt_wk [true, true, false, true] rfl ?_
      exact wp_md_tongue_B121_ok hE hR hD hK47 h
    · have h := wt_ip c31 h
      refine wt_aload_n hE wp_md_tongue_d96 rfl ?_
      refine wt_dup hE wp_md_tongue_d97 rfl ?_
      refine wt_geti hE wt_lf_md_160 (hD 108 (by decide) (by decide)) wt_L108 rfl wp_md_tongue_d98 ?_
      refine wt_iconst hE (1 : Int32) wp_md_tongue_d101 wt_ci_1 ?_
      refine wt_iadd hE wp_md_tongue_d102 ?_
      refine wt_puti hE wt_lf_md_160 (hD 108 (by decide) (by decide)) wt_L108 rfl (fun q hq => by cases hq; rfl) wp_md_tongue_d103 ?_
      refine wt_aload_n hE wp_md_tongue_d106 rfl ?_
      refine wt_iload_n hE wp_md_tongue_d107 rfl ?_
      obtain ⟨q32, hq32, h⟩ := wt_bi h
      refine wt_callVv hE [.int s.1] wt_lm_md_256 wt_ya_md_reads (wp_md_reads_ok hD hq32) (by omega) (hD 108 (by decide) (by decide)) wt_L108 rfl rfl rfl (Nat.le_of_ble_eq_true rfl) (Nat.zero_le _) wp_md_tongue_d108 ?_
      refine wt_aload_n hE wp_md_tongue_d111 rfl ?_
      obtain ⟨q33, hq33, h⟩ := wt_bi h
      refine wt_callVv hE [] wt_lm_md_173 wt_ya_md_blanks (wp_md_blanks_ok hD hq33) (by omega) (hD 108 (by decide) (by decide)) wt_L108 rfl rfl rfl (Nat.le_of_ble_eq_true rfl) (Nat.zero_le _) wp_md_tongue_d112 ?_
      refine wt_iinc hE (s.1 + (1 : Int32)) [some (.ref (wt_ad (wt_xw X) 108)), none, some (.int (s.1 + (1 : Int32))), none] wp_md_tongue_d115 (by decide) rfl rfl rfl ?_
      refine wt_goto hE 76 wp_md_tongue_d118 rfl ?_
      exact hK76 ((s.1 + (1 : Int32)), q33) h
noncomputable def wp_md_tongue_B47 (n : Nat) (K47 : wt_St → Option (Int32 × wt_St)) (s : wt_St) : Option (Int32 × wt_St) :=
  if (wt_gf s 108 5) = 0 then
    if (wt_gf s 108 2) ≤ (wt_gf s 108 4) then
      wp_md_tongue_B134 n s
    else
      (wp_md_reads n (0 : Int32) s).bind fun q25 =>
      (wp_md_blanks n q25).bind fun q26 =>
      wt_it (wp_md_tongue_B76 n K47) n ((1 : Int32), q26)
  else
    wp_md_tongue_B134 n s
set_option maxRecDepth 100000 in
set_option maxHeartbeats 4000000 in
theorem wp_md_tongue_B47_ok  {X : wt_X} {n : Nat} {res : Int32 × wt_St} (hE : wt_Ok X prog_13_method_27_code 4 "WornTypeModel" 4 0) (hR : wt_Rt X (some .int) (some res.1) res.2) (hD : ∀ i, 108 ≤ i → i < 321 → wt_dom (wt_xw X) i)  {K47 : wt_St → Option (Int32 × wt_St)} (hK47 : ∀ s : wt_St, K47 s = some res → wt_V X 0 s 47 [some (.ref (wt_ad (wt_xw X) 108)), none, none, none] []) {s : wt_St} (h : wp_md_tongue_B47 n K47 s = some res) : wt_V X 0 s 47 [some (.ref (wt_ad (wt_xw X) 108)), none, none, none] [] := by
  unfold wp_md_tongue_B47 at h
  refine wt_aload_n hE wp_md_tongue_d47 rfl ?_
  refine wt_geti hE wt_lf_md_167 (hD 108 (by decide) (by decide)) wt_L108 rfl wp_md_tongue_d48 ?_
  refine wt_if_ne hE 134 wp_md_tongue_d51 rfl (fun c6 => ?_) (fun c6 => ?_)
  · have h := wt_in c6 h
    exact wp_md_tongue_B134_ok hE hR hD h
  · have h := wt_ip c6 h
    refine wt_aload_n hE wp_md_tongue_d54 rfl ?_
    refine wt_geti hE wt_lf_md_160 (hD 108 (by decide) (by decide)) wt_L108 rfl wp_md_tongue_d55 ?_
    refine wt_aload_n hE wp_md_tongue_d58 rfl ?_
    refine wt_geti hE wt_lf_md_157 (hD 108 (by decide) (by decide)) wt_L108 rfl wp_md_tongue_d59 ?_
    refine wt_icmp_ge hE 134 wp_md_tongue_d62 rfl (fun c24 => ?_) (fun c24 => ?_)
    · have h := wt_ip c24 h
      exact wp_md_tongue_B134_ok hE hR hD h
    · have h := wt_in c24 h
      refine wt_aload_n hE wp_md_tongue_d65 rfl ?_
      refine wt_iconst hE (0 : Int32) wp_md_tongue_d66 wt_ci_0 ?_
      obtain ⟨q25, hq25, h⟩ := wt_bi h
      refine wt_callVv hE [.int (0 : Int32)] wt_lm_md_256 wt_ya_md_reads (wp_md_reads_ok hD hq25) (by omega) (hD 108 (by decide) (by decide)) wt_L108 rfl rfl rfl (Nat.le_of_ble_eq_true rfl) (Nat.zero_le _) wp_md_tongue_d67 ?_
      refine wt_aload_n hE wp_md_tongue_d70 rfl ?_
      obtain ⟨q26, hq26, h⟩ := wt_bi h
      refine wt_callVv hE [] wt_lm_md_173 wt_ya_md_blanks (wp_md_blanks_ok hD hq26) (by omega) (hD 108 (by decide) (by decide)) wt_L108 rfl rfl rfl (Nat.le_of_ble_eq_true rfl) (Nat.zero_le _) wp_md_tongue_d71 ?_
      refine wt_iconst hE (1 : Int32) wp_md_tongue_d74 wt_ci_1 ?_
      refine wt_istore_n hE [some (.ref (wt_ad (wt_xw X) 108)), none, some (.int (1 : Int32)), none] wp_md_tongue_d75 (by decide) rfl ?_
      exact wt_it_ind (fun z => wt_V X 0 z.2 76 [some (.ref (wt_ad (wt_xw X) 108)), none, some (.int z.1), none] []) (fun K hK z h => wp_md_tongue_B76_ok hE hR hD hK47 hK h) n ((1 : Int32), q26) h
noncomputable def wp_md_tongue_B23 (n : Nat) (x1 : Int32) (y1 : Int32) (σ : wt_St) : Option (Int32 × wt_St) :=
  (wp_md_bad n y1 (1 : Int32) σ).bind fun q3 =>
  if q3.1 = 0 then
    (wp_md_starts n x1 q3.2).bind fun q5 =>
    wt_it (wp_md_tongue_B47 n) n (wt_sf (wt_sf q5 108 27 (0 : Int32)) 108 29 (0 : Int32))
  else
    some ((0 : Int32), q3.2)
set_option maxRecDepth 100000 in
set_option maxHeartbeats 4000000 in
theorem wp_md_tongue_B23_ok  {x1 : Int32} {X : wt_X} {n : Nat} {res : Int32 × wt_St} (hE : wt_Ok X prog_13_method_27_code 4 "WornTypeModel" 4 0) (hR : wt_Rt X (some .int) (some res.1) res.2) (hD : ∀ i, 108 ≤ i → i < 321 → wt_dom (wt_xw X) i)  {σ : wt_St} {y1 : Int32} (h : wp_md_tongue_B23 n x1 y1 σ = some res) : wt_V X 0 σ 23 [some (.ref (wt_ad (wt_xw X) 108)), some (.int x1), none, none] [.int y1, .ref (wt_ad (wt_xw X) 108)] := by
  unfold wp_md_tongue_B23 at h
  refine wt_iconst hE (1 : Int32) wp_md_tongue_d23 wt_ci_1 ?_
  obtain ⟨q3, hq3, h⟩ := wt_bi h
  refine wt_callVi hE [.int y1, .int (1 : Int32)] wt_lm_md_230 wt_ya_md_bad (wp_md_bad_ok hD hq3) (by omega) (hD 108 (by decide) (by decide)) wt_L108 rfl rfl rfl (Nat.le_of_ble_eq_true rfl) (Nat.zero_le _) wp_md_tongue_d24 (fun hbq3 => ?_)
  refine wt_if_eq hE 32 wp_md_tongue_d27 rfl (fun c4 => ?_) (fun c4 => ?_)
  · have h := wt_ip c4 h
    refine wt_aload_n hE wp_md_tongue_d32 rfl ?_
    refine wt_iload_n hE wp_md_tongue_d33 rfl ?_
    obtain ⟨q5, hq5, h⟩ := wt_bi h
    refine wt_callVv hE [.int x1] wt_lm_md_234 wt_ya_md_starts (wp_md_starts_ok hD hq5) (by omega) (hD 108 (by decide) (by decide)) wt_L108 rfl rfl rfl (Nat.le_of_ble_eq_true rfl) (Nat.zero_le _) wp_md_tongue_d34 ?_
    refine wt_aload_n hE wp_md_tongue_d37 rfl ?_
    refine wt_iconst hE (0 : Int32) wp_md_tongue_d38 wt_ci_0 ?_
    refine wt_puti hE wt_lf_md_246 (hD 108 (by decide) (by decide)) wt_L108 rfl (fun q hq => by cases hq; rfl) wp_md_tongue_d39 ?_
    refine wt_aload_n hE wp_md_tongue_d42 rfl ?_
    refine wt_iconst hE (0 : Int32) wp_md_tongue_d43 wt_ci_0 ?_
    refine wt_puti hE wt_lf_md_253 (hD 108 (by decide) (by decide)) wt_L108 rfl (fun q hq => by cases hq; rfl) wp_md_tongue_d44 ?_
    refine wt_wk [true, false, true, true] rfl ?_
    exact wt_it_ind (fun z => wt_V X 0 z 47 [some (.ref (wt_ad (wt_xw X) 108)), none, none, none] []) (fun K hK z h => wp_md_tongue_B47_ok hE hR hD hK h) n (wt_sf (wt_sf q5 108 27 (0 : Int32)) 108 29 (0 : Int32)) h
  · have h := wt_in c4 h
    refine wt_iconst hE (0 : Int32) wp_md_tongue_d30 wt_ci_0 ?_
    cases h
    exact wt_iret hE hR wp_md_tongue_d31
noncomputable def wp_md_tongue (n : Nat) (x1 : Int32) (σ : wt_St) : Option (Int32 × wt_St) :=
  (wp_md_in n x1 (0 : Int32) (wt_gf (wt_sf σ 108 0 (0 : Int32)) 108 1) (wt_sf σ 108 0 (0 : Int32))).bind fun q1 =>
  if q1.1 = 0 then
    wp_md_tongue_B23 n x1 (1 : Int32) q1.2
  else
    wp_md_tongue_B23 n x1 (0 : Int32) q1.2
set_option maxRecDepth 100000 in
set_option maxHeartbeats 4000000 in
theorem wp_md_tongue_ok {l : Launch} {w : wt_E} {n : Nat} {x1 : Int32} (hD : ∀ i, 108 ≤ i → i < 321 → wt_dom w i) {σ : wt_St} {q : Int32 × wt_St} (h : wp_md_tongue n x1 σ = some q) : wt_Ctr l w wt_y_md_tongue prog_13_method_27_code 4 (some .int) 4 [.ref (wt_ad w 108), .int x1] σ (some q.1) q.2 := by
  refine wt_ctr wt_pl_md_tongue rfl (Nat.le_of_ble_eq_true rfl) [some (.ref (wt_ad w 108)), some (.int x1), none, none] rfl ?_
  intro X hXl hXw hE hR
  subst hXl
  subst hXw
  have hE : wt_Ok X prog_13_method_27_code 4 "WornTypeModel" 4 0 := hE
  unfold wp_md_tongue at h
  refine wt_aload_n hE wp_md_tongue_d0 rfl ?_
  refine wt_iconst hE (0 : Int32) wp_md_tongue_d1 wt_ci_0 ?_
  refine wt_puti hE wt_lf_md_151 (hD 108 (by decide) (by decide)) wt_L108 rfl (fun q hq => by cases hq; rfl) wp_md_tongue_d2 ?_
  refine wt_aload_n hE wp_md_tongue_d5 rfl ?_
  refine wt_iload_n hE wp_md_tongue_d6 rfl ?_
  refine wt_iconst hE (0 : Int32) wp_md_tongue_d7 wt_ci_0 ?_
  refine wt_aload_n hE wp_md_tongue_d8 rfl ?_
  refine wt_geti hE wt_lf_md_154 (hD 108 (by decide) (by decide)) wt_L108 rfl wp_md_tongue_d9 ?_
  obtain ⟨q1, hq1, h⟩ := wt_bi h
  refine wt_callSi hE [.int x1, .int (0 : Int32), .int (wt_gf (wt_sf σ 108 0 (0 : Int32)) 108 1)] wt_lm_md_185 wt_ya_md_in (wp_md_in_ok hq1) (by omega) rfl rfl (Nat.le_of_ble_eq_true rfl) (Nat.zero_le _) wp_md_tongue_d12 (fun hbq1 => ?_)
  refine wt_if_ne hE 22 wp_md_tongue_d15 rfl (fun c2 => ?_) (fun c2 => ?_)
  · have h := wt_in c2 h
    refine wt_iconst hE (0 : Int32) wp_md_tongue_d22 wt_ci_0 ?_
    exact wp_md_tongue_B23_ok hE hR hD h
  · have h := wt_ip c2 h
    refine wt_iconst hE (1 : Int32) wp_md_tongue_d18 wt_ci_1 ?_
    refine wt_goto hE 23 wp_md_tongue_d19 rfl ?_
    exact wp_md_tongue_B23_ok hE hR hD h
