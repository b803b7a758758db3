def wb17m7_prog_13_method_72_code_r0 : List (List Nat) := [42, 3, 181, 0, 151, 42, 180, 1, 12, 60, 42, 3, 181, 1, 12, 27, 172] :: []
set_option maxRecDepth 100000 in
theorem wb17m7_prog_13_method_72_code_c0 : wt_cs prog_13_method_72_code 0 wb17m7_prog_13_method_72_code_r0 := wt_cs_of (by decide +kernel)
theorem wp_md_forget_d0 : decode prog_13_method_72_code 0 = .ok (.aload_n 0, 1) := wt_op42 wb17m7_prog_13_method_72_code_c0 0 rfl rfl
theorem wp_md_forget_d1 : decode prog_13_method_72_code 1 = .ok (.iconst 0, 1) := wt_op3 wb17m7_prog_13_method_72_code_c0 1 rfl rfl
theorem wp_md_forget_d2 : decode prog_13_method_72_code 2 = .ok (.putfield 151, 3) := wt_op181 wb17m7_prog_13_method_72_code_c0 2 rfl rfl rfl
theorem wp_md_forget_d5 : decode prog_13_method_72_code 5 = .ok (.aload_n 0, 1) := wt_op42 wb17m7_prog_13_method_72_code_c0 5 rfl rfl
theorem wp_md_forget_d6 : decode prog_13_method_72_code 6 = .ok (.getfield 268, 3) := wt_op180 wb17m7_prog_13_method_72_code_c0 6 rfl rfl rfl
theorem wp_md_forget_d9 : decode prog_13_method_72_code 9 = .ok (.istore_n 1, 1) := wt_op60 wb17m7_prog_13_method_72_code_c0 9 rfl rfl
theorem wp_md_forget_d10 : decode prog_13_method_72_code 10 = .ok (.aload_n 0, 1) := wt_op42 wb17m7_prog_13_method_72_code_c0 10 rfl rfl
theorem wp_md_forget_d11 : decode prog_13_method_72_code 11 = .ok (.iconst 0, 1) := wt_op3 wb17m7_prog_13_method_72_code_c0 11 rfl rfl
theorem wp_md_forget_d12 : decode prog_13_method_72_code 12 = .ok (.putfield 268, 3) := wt_op181 wb17m7_prog_13_method_72_code_c0 12 rfl rfl rfl
theorem wp_md_forget_d15 : decode prog_13_method_72_code 15 = .ok (.iload_n 1, 1) := wt_op27 wb17m7_prog_13_method_72_code_c0 15 rfl rfl
theorem wp_md_forget_d16 : decode prog_13_method_72_code 16 = .ok (.ireturn, 1) := wt_op172 wb17m7_prog_13_method_72_code_c0 16 rfl rfl
noncomputable def wp_md_forget (n : Nat) (σ : wt_St) : Option (Int32 × wt_St) :=
  some ((wt_gf (wt_sf σ 108 0 (0 : Int32)) 108 40), (wt_sf (wt_sf σ 108 0 (0 : Int32)) 108 40 (0 : Int32)))
set_option maxRecDepth 100000 in
set_option maxHeartbeats 4000000 in
theorem wp_md_forget_ok {l : Launch} {w : wt_E} {n : Nat} (hD : ∀ i, 108 ≤ i → i < 321 → wt_dom w i) {σ : wt_St} {q : Int32 × wt_St} (h : wp_md_forget n σ = some q) : wt_Ctr l w wt_y_md_forget prog_13_method_72_code 2 (some .int) 0 [.ref (wt_ad w 108)] σ (some q.1) q.2 := by
  refine wt_ctr wt_pl_md_forget rfl (Nat.le_of_ble_eq_true rfl) [some (.ref (wt_ad w 108)), none] rfl ?_
  intro X hXl hXw hE hR
  subst hXl
  subst hXw
  have hE : wt_Ok X prog_13_method_72_code 2 "WornTypeModel" 0 0 := hE
  unfold wp_md_forget at h
  refine wt_aload_n hE wp_md_forget_d0 rfl ?_
  refine wt_iconst hE (0 : Int32) wp_md_forget_d1 wt_ci_0 ?_
  refine wt_puti hE wt_lf_md_151 (hD 108 (by decide) (by decide)) wt_L108 rfl (fun q hq => by cases hq; rfl) wp_md_forget_d2 ?_
  refine wt_aload_n hE wp_md_forget_d5 rfl ?_
  refine wt_geti hE wt_lf_md_268 (hD 108 (by decide) (by decide)) wt_L108 rfl wp_md_forget_d6 ?_
  refine wt_istore_n hE [some (.ref (wt_ad (wt_xw X) 108)), some (.int (wt_gf (wt_sf σ 108 0 (0 : Int32)) 108 40))] wp_md_forget_d9 (by decide) rfl ?_
  refine wt_aload_n hE wp_md_forget_d10 rfl ?_
  refine wt_iconst hE (0 : Int32) wp_md_forget_d11 wt_ci_0 ?_
  refine wt_puti hE wt_lf_md_268 (hD 108 (by decide) (by decide)) wt_L108 rfl (fun q hq => by cases hq; rfl) wp_md_forget_d12 ?_
  refine wt_iload_n hE wp_md_forget_d15 rfl ?_
  cases h
  exact wt_iret hE hR wp_md_forget_d16
def wb17m7_prog_13_method_77_code_r1 : List (List Nat) := [6, 46, 167, 0, 4, 3, 96, 61, 132, 3, 1, 167, 255, 221, 28, 172] :: []
def wb17m7_prog_13_method_77_code_r0 : List (List Nat) := [3, 61, 3, 62, 29, 42, 180, 1, 12, 162, 0, 33, 28, 27, 29, 122, 4, 126, 4, 160, 0, 14, 42, 180, 0, 94, 29, 50] :: wb17m7_prog_13_method_77_code_r1
set_option maxRecDepth 100000 in
theorem wb17m7_prog_13_method_77_code_c0 : wt_cs prog_13_method_77_code 0 wb17m7_prog_13_method_77_code_r0 := wt_cs_of (by decide +kernel)
theorem wb17m7_prog_13_method_77_code_c1 : wt_cs prog_13_method_77_code 28 wb17m7_prog_13_method_77_code_r1 := wt_cs_tl (m := 28) wb17m7_prog_13_method_77_code_c0 rfl rfl
theorem wp_md_worthOf_d0 : decode prog_13_method_77_code 0 = .ok (.iconst 0, 1) := wt_op3 wb17m7_prog_13_method_77_code_c0 0 rfl rfl
theorem wp_md_worthOf_d1 : decode prog_13_method_77_code 1 = .ok (.istore_n 2, 1) := wt_op61 wb17m7_prog_13_method_77_code_c0 1 rfl rfl
theorem wp_md_worthOf_d2 : decode prog_13_method_77_code 2 = .ok (.iconst 0, 1) := wt_op3 wb17m7_prog_13_method_77_code_c0 2 rfl rfl
theorem wp_md_worthOf_d3 : decode prog_13_method_77_code 3 = .ok (.istore_n 3, 1) := wt_op62 wb17m7_prog_13_method_77_code_c0 3 rfl rfl
theorem wp_md_worthOf_d4 : decode prog_13_method_77_code 4 = .ok (.iload_n 3, 1) := wt_op29 wb17m7_prog_13_method_77_code_c0 4 rfl rfl
theorem wp_md_worthOf_d5 : decode prog_13_method_77_code 5 = .ok (.aload_n 0, 1) := wt_op42 wb17m7_prog_13_method_77_code_c0 5 rfl rfl
theorem wp_md_worthOf_d6 : decode prog_13_method_77_code 6 = .ok (.getfield 268, 3) := wt_op180 wb17m7_prog_13_method_77_code_c0 6 rfl rfl rfl
theorem wp_md_worthOf_d9 : decode prog_13_method_77_code 9 = .ok (.if_icmp .ge 33, 3) := wt_op162 wb17m7_prog_13_method_77_code_c0 9 rfl rfl rfl
theorem wp_md_worthOf_d12 : decode prog_13_method_77_code 12 = .ok (.iload_n 2, 1) := wt_op28 wb17m7_prog_13_method_77_code_c0 12 rfl rfl
theorem wp_md_worthOf_d13 : decode prog_13_method_77_code 13 = .ok (.iload_n 1, 1) := wt_op27 wb17m7_prog_13_method_77_code_c0 13 rfl rfl
theorem wp_md_worthOf_d14 : decode prog_13_method_77_code 14 = .ok (.iload_n 3, 1) := wt_op29 wb17m7_prog_13_method_77_code_c0 14 rfl rfl
theorem wp_md_worthOf_d15 : decode prog_13_method_77_code 15 = .ok (.ishr, 1) := wt_op122 wb17m7_prog_13_method_77_code_c0 15 rfl rfl
theorem wp_md_worthOf_d16 : decode prog_13_method_77_code 16 = .ok (.iconst 1, 1) := wt_op4 wb17m7_prog_13_method_77_code_c0 16 rfl rfl
theorem wp_md_worthOf_d17 : decode prog_13_method_77_code 17 = .ok (.iand, 1) := wt_op126 wb17m7_prog_13_method_77_code_c0 17 rfl rfl
theorem wp_md_worthOf_d18 : decode prog_13_method_77_code 18 = .ok (.iconst 1, 1) := wt_op4 wb17m7_prog_13_method_77_code_c0 18 rfl rfl
theorem wp_md_worthOf_d19 : decode prog_13_method_77_code 19 = .ok (.if_icmp .ne 14, 3) := wt_op160 wb17m7_prog_13_method_77_code_c0 19 rfl rfl rfl
theorem wp_md_worthOf_d22 : decode prog_13_method_77_code 22 = .ok (.aload_n 0, 1) := wt_op42 wb17m7_prog_13_method_77_code_c0 22 rfl rfl
theorem wp_md_worthOf_d23 : decode prog_13_method_77_code 23 = .ok (.getfield 94, 3) := wt_op180 wb17m7_prog_13_method_77_code_c0 23 rfl rfl rfl
theorem wp_md_worthOf_d26 : decode prog_13_method_77_code 26 = .ok (.iload_n 3, 1) := wt_op29 wb17m7_prog_13_method_77_code_c0 26 rfl rfl
theorem wp_md_worthOf_d27 : decode prog_13_method_77_code 27 = .ok (.aaload, 1) := wt_op50 wb17m7_prog_13_method_77_code_c0 27 rfl rfl
theorem wp_md_worthOf_d28 : decode prog_13_method_77_code 28 = .ok (.iconst 3, 1) := wt_op6 wb17m7_prog_13_method_77_code_c1 0 rfl rfl
theorem wp_md_worthOf_d29 : decode prog_13_method_77_code 29 = .ok (.iaload, 1) := wt_op46 wb17m7_prog_13_method_77_code_c1 1 rfl rfl
theorem wp_md_worthOf_d30 : decode prog_13_method_77_code 30 = .ok (.goto 4, 3) := wt_op167 wb17m7_prog_13_method_77_code_c1 2 rfl rfl rfl
theorem wp_md_worthOf_d33 : decode prog_13_method_77_code 33 = .ok (.iconst 0, 1) := wt_op3 wb17m7_prog_13_method_77_code_c1 5 rfl rfl
theorem wp_md_worthOf_d34 : decode prog_13_method_77_code 34 = .ok (.iadd, 1) := wt_op96 wb17m7_prog_13_method_77_code_c1 6 rfl rfl
theorem wp_md_worthOf_d35 : decode prog_13_method_77_code 35 = .ok (.istore_n 2, 1) := wt_op61 wb17m7_prog_13_method_77_code_c1 7 rfl rfl
theorem wp_md_worthOf_d36 : decode prog_13_method_77_code 36 = .ok (.iinc 3 1, 3) := wt_op132 wb17m7_prog_13_method_77_code_c1 8 rfl rfl rfl
theorem wp_md_worthOf_d39 : decode prog_13_method_77_code 39 = .ok (.goto (-35), 3) := wt_op167 wb17m7_prog_13_method_77_code_c1 11 rfl rfl rfl
theorem wp_md_worthOf_d42 : decode prog_13_method_77_code 42 = .ok (.iload_n 2, 1) := wt_op28 wb17m7_prog_13_method_77_code_c1 14 rfl rfl
theorem wp_md_worthOf_d43 : decode prog_13_method_77_code 43 = .ok (.ireturn, 1) := wt_op172 wb17m7_prog_13_method_77_code_c1 15 rfl rfl
noncomputable def wp_md_worthOf_B34 (n : Nat) (x1 : Int32) (x3 : Int32) (K4 : Int32 × Int32 × wt_St → Option (Int32 × wt_St)) (y0 : Int32) (y1 : Int32) (σ : wt_St) : Option (Int32 × wt_St) :=
  K4 ((y0 + y1), (x3 + (1 : Int32)), σ)
set_option maxRecDepth 100000 in
set_option maxHeartbeats 4000000 in
theorem wp_md_worthOf_B34_ok  {x1 : Int32} {x3 : Int32} {X : wt_X} {n : Nat} {res : Int32 × wt_St} (hE : wt_Ok X prog_13_method_77_code 4 "WornTypeModel" 0 0) (hR : wt_Rt X (some .int) (some res.1) res.2) (hD : ∀ i, 108 ≤ i → i < 321 → wt_dom (wt_xw X) i)  {K4 : Int32 × Int32 × wt_St → Option (Int32 × wt_St)} (hK4 : ∀ s : Int32 × Int32 × wt_St, K4 s = some res → wt_V X 0 s.2.2 4 [some (.ref (wt_ad (wt_xw X) 108)), some (.int x1), some (.int s.1), some (.int s.2.1)] []) {σ : wt_St} {y0 : Int32} {y1 : Int32} (h : wp_md_worthOf_B34 n x1 x3 K4 y0 y1 σ = some res) : wt_V X 0 σ 34 [some (.ref (wt_ad (wt_xw X) 108)), some (.int x1), none, some (.int x3)] [.int y1, .int y0] := by
  unfold wp_md_worthOf_B34 at h
  refine wt_iadd hE wp_md_worthOf_d34 ?_
  refine wt_istore_n hE [some (.ref (wt_ad (wt_xw X) 108)), some (.int x1), some (.int (y0 + y1)), some (.int x3)] wp_md_worthOf_d35 (by decide) rfl ?_
  refine wt_iinc hE (x3 + (1 : Int32)) [some (.ref (wt_ad (wt_xw X) 108)), some (.int x1), some (.int (y0 + y1)), some (.int (x3 + (1 : Int32)))] wp_md_worthOf_d36 (by decide) rfl rfl rfl ?_
  refine wt_goto hE 4 wp_md_worthOf_d39 rfl ?_
  exact hK4 ((y0 + y1), (x3 + (1 : Int32)), σ) h
noncomputable def wp_md_worthOf_B4 (n : Nat) (x1 : Int32) (K4 : Int32 × Int32 × wt_St → Option (Int32 × wt_St)) (s : Int32 × Int32 × wt_St) : Option (Int32 × wt_St) :=
  if (wt_gf s.2.2 108 40) ≤ s.2.1 then
    some (s.1, s.2.2)
  else
    if ((x1 >>> (s.2.1 &&& 31)) &&& (1 : Int32)) = (1 : Int32) then
      if s.2.1 < 0 ∨ 10 ≤ Int32.toNatClampNeg s.2.1 then none else
      if (3 : Int32) < 0 ∨ 4 ≤ Int32.toNatClampNeg (3 : Int32) then none else
      wp_md_worthOf_B34 n x1 s.2.1 K4 s.1 (wt_ga s.2.2 (264 + Int32.toNatClampNeg s.2.1) (Int32.toNatClampNeg (3 : Int32))) s.2.2
    else
      wp_md_worthOf_B34 n x1 s.2.1 K4 s.1 (0 : Int32) s.2.2
set_option maxRecDepth 100000 in
set_option maxHeartbeats 4000000 in
theorem wp_md_worthOf_B4_ok  {x1 : Int32} {X : wt_X} {n : Nat} {res : Int32 × wt_St} (hE : wt_Ok X prog_13_method_77_code 4 "WornTypeModel" 0 0) (hR : wt_Rt X (some .int) (some res.1) res.2) (hD : ∀ i, 108 ≤ i → i < 321 → wt_dom (wt_xw X) i)  {K4 : Int32 × Int32 × wt_St → Option (Int32 × wt_St)} (hK4 : ∀ s : Int32 × Int32 × wt_St, K4 s = some res → wt_V X 0 s.2.2 4 [some (.ref (wt_ad (wt_xw X) 108)), some (.int x1), some (.int s.1), some (.int s.2.1)] []) {s : Int32 × Int32 × wt_St} (h : wp_md_worthOf_B4 n x1 K4 s = some res) : wt_V X 0 s.2.2 4 [some (.ref (wt_ad (wt_xw X) 108)), some (.int x1), some (.int s.1), some (.int s.2.1)] [] := by
  unfold wp_md_worthOf_B4 at h
  refine wt_iload_n hE wp_md_worthOf_d4 rfl ?_
  refine wt_aload_n hE wp_md_worthOf_d5 rfl ?_
  refine wt_geti hE wt_lf_md_268 (hD 108 (by decide) (by decide)) wt_L108 rfl wp_md_worthOf_d6 ?_
  refine wt_icmp_ge hE 42 wp_md_worthOf_d9 rfl (fun c1 => ?_) (fun c1 => ?_)
  · have h := wt_ip c1 h
    refine wt_iload_n hE wp_md_worthOf_d42 rfl ?_
    cases h
    exact wt_iret hE hR wp_md_worthOf_d43
  · have h := wt_in c1 h
    refine wt_iload_n hE wp_md_worthOf_d12 rfl ?_
    refine wt_iload_n hE wp_md_worthOf_d13 rfl ?_
    refine wt_iload_n hE wp_md_worthOf_d14 rfl ?_
    refine wt_ishr hE wp_md_worthOf_d15 ?_
    refine wt_iconst hE (1 : Int32) wp_md_worthOf_d16 wt_ci_1 ?_
    refine wt_iand hE wp_md_worthOf_d17 ?_
    refine wt_iconst hE (1 : Int32) wp_md_worthOf_d18 wt_ci_1 ?_
    refine wt_icmp_ne hE 33 wp_md_worthOf_d19 rfl (fun c2 => ?_) (fun c2 => ?_)
    · have h := wt_in c2 h
      refine wt_iconst hE (0 : Int32) wp_md_worthOf_d33 wt_ci_0 ?_
      refine wt_wk [true, true, false, true] rfl ?_
      exact wp_md_worthOf_B34_ok hE hR hD hK4 h
    · have h := wt_ip c2 h
      refine wt_aload_n hE wp_md_worthOf_d22 rfl ?_
      refine wt_getr hE (r := 263) wt_lf_md_94 (hD 108 (by decide) (by decide)) wt_L108 rfl wp_md_worthOf_d23 ?_
      refine wt_iload_n hE wp_md_worthOf_d26 rfl ?_
      obtain ⟨g3, h⟩ := wt_gd h
      have lg3 := wt_lt g3
      refine wt_aald1 hE (hD 263 (by decide) (by decide)) wt_L263 g3 wp_md_worthOf_d27 ?_
      refine wt_iconst hE (3 : Int32) wp_md_worthOf_d28 wt_ci_3 ?_
      obtain ⟨g4, h⟩ := wt_gd h
      refine wt_iald hE (hD _ (by omega) (by omega)) (wt_G264 _ lg3) g4 wp_md_worthOf_d29 ?_
      refine wt_goto hE 34 wp_md_worthOf_d30 rfl ?_
      refine wt_wk [true, true, false, true] rfl ?_
      exact wp_md_worthOf_B34_ok hE hR hD hK4 h
noncomputable def wp_md_worthOf (n : Nat) (x1 : Int32) (σ : wt_St) : Option (Int32 × wt_St) :=
  wt_it (wp_md_worthOf_B4 n x1) n ((0 : Int32), (0 : Int32), σ)
set_option maxRecDepth 100000 in
set_option maxHeartbeats 4000000 in
theorem wp_md_worthOf_ok {l : Launch} {w : wt_E} {n : Nat} {x1 : Int32} (hD : ∀ i, 108 ≤ i → i < 321 → wt_dom w i) {σ : wt_St} {q : Int32 × wt_St} (h : wp_md_worthOf n x1 σ = some q) : wt_Ctr l w wt_y_md_worthOf prog_13_method_77_code 4 (some .int) 0 [.ref (wt_ad w 108), .int x1] σ (some q.1) q.2 := by
  refine wt_ctr wt_pl_md_worthOf rfl (Nat.le_of_ble_eq_true rfl) [some (.ref (wt_ad w 108)), some (.int x1), none, none] rfl ?_
  intro X hXl hXw hE hR
  subst hXl
  subst hXw
  have hE : wt_Ok X prog_13_method_77_code 4 "WornTypeModel" 0 0 := hE
  unfold wp_md_worthOf at h
  refine wt_iconst hE (0 : Int32) wp_md_worthOf_d0 wt_ci_0 ?_
  refine wt_istore_n hE [some (.ref (wt_ad (wt_xw X) 108)), some (.int x1), some (.int (0 : Int32)), none] wp_md_worthOf_d1 (by decide) rfl ?_
  refine wt_iconst hE (0 : Int32) wp_md_worthOf_d2 wt_ci_0 ?_
  refine wt_istore_n hE [some (.ref (wt_ad (wt_xw X) 108)), some (.int x1), some (.int (0 : Int32)), some (.int (0 : Int32))] wp_md_worthOf_d3 (by decide) rfl ?_
  exact wt_it_ind (fun z => wt_V X 0 z.2.2 4 [some (.ref (wt_ad (wt_xw X) 108)), some (.int x1), some (.int z.1), some (.int z.2.1)] []) (fun K hK z h => wp_md_worthOf_B4_ok hE hR hD hK h) n ((0 : Int32), (0 : Int32), σ) h
def wb17m7_prog_13_method_80_code_r1 : List (List Nat) := [172, 42, 16, 100, 182, 1, 116, 61, 42, 182, 1, 110, 27, 154, 0, 11, 42, 28, 182, 1, 113, 167, 0, 4, 28, 172] :: []
def wb17m7_prog_13_method_80_code_r0 : List (List Nat) := [42, 3, 181, 0, 151, 42, 27, 3, 4, 184, 0, 185, 154, 0, 7, 4, 167, 0, 4, 3, 4, 182, 0, 230, 153, 0, 5, 3] :: wb17m7_prog_13_method_80_code_r1
set_option maxRecDepth 100000 in
theorem wb17m7_prog_13_method_80_code_c0 : wt_cs prog_13_method_80_code 0 wb17m7_prog_13_method_80_code_r0 := wt_cs_of (by decide +kernel)
theorem wb17m7_prog_13_method_80_code_c1 : wt_cs prog_13_method_80_code 28 wb17m7_prog_13_method_80_code_r1 := wt_cs_tl (m := 28) wb17m7_prog_13_method_80_code_c0 rfl rfl
theorem wp_md_greedy_d0 : decode prog_13_method_80_code 0 = .ok (.aload_n 0, 1) := wt_op42 wb17m7_prog_13_method_80_code_c0 0 rfl rfl
theorem wp_md_greedy_d1 : decode prog_13_method_80_code 1 = .ok (.iconst 0, 1) := wt_op3 wb17m7_prog_13_method_80_code_c0 1 rfl rfl
theorem wp_md_greedy_d2 : decode prog_13_method_80_code 2 = .ok (.putfield 151, 3) := wt_op181 wb17m7_prog_13_method_80_code_c0 2 rfl rfl rfl
theorem wp_md_greedy_d5 : decode prog_13_method_80_code 5 = .ok (.aload_n 0, 1) := wt_op42 wb17m7_prog_13_method_80_code_c0 5 rfl rfl
theorem wp_md_greedy_d6 : decode prog_13_method_80_code 6 = .ok (.iload_n 1, 1) := wt_op27 wb17m7_prog_13_method_80_code_c0 6 rfl rfl
theorem wp_md_greedy_d7 : decode prog_13_method_80_code 7 = .ok (.iconst 0, 1) := wt_op3 wb17m7_prog_13_method_80_code_c0 7 rfl rfl
theorem wp_md_greedy_d8 : decode prog_13_method_80_code 8 = .ok (.iconst 1, 1) := wt_op4 wb17m7_prog_13_method_80_code_c0 8 rfl rfl
theorem wp_md_greedy_d9 : decode prog_13_method_80_code 9 = .ok (.invokestatic 185, 3) := wt_op184 wb17m7_prog_13_method_80_code_c0 9 rfl rfl rfl
theorem wp_md_greedy_d12 : decode prog_13_method_80_code 12 = .ok (.ifCond .ne 7, 3) := wt_op154 wb17m7_prog_13_method_80_code_c0 12 rfl rfl rfl
theorem wp_md_greedy_d15 : decode prog_13_method_80_code 15 = .ok (.iconst 1, 1) := wt_op4 wb17m7_prog_13_method_80_code_c0 15 rfl rfl
theorem wp_md_greedy_d16 : decode prog_13_method_80_code 16 = .ok (.goto 4, 3) := wt_op167 wb17m7_prog_13_method_80_code_c0 16 rfl rfl rfl
theorem wp_md_greedy_d19 : decode prog_13_method_80_code 19 = .ok (.iconst 0, 1) := wt_op3 wb17m7_prog_13_method_80_code_c0 19 rfl rfl
theorem wp_md_greedy_d20 : decode prog_13_method_80_code 20 = .ok (.iconst 1, 1) := wt_op4 wb17m7_prog_13_method_80_code_c0 20 rfl rfl
theorem wp_md_greedy_d21 : decode prog_13_method_80_code 21 = .ok (.invokevirtual 230, 3) := wt_op182 wb17m7_prog_13_method_80_code_c0 21 rfl rfl rfl
theorem wp_md_greedy_d24 : decode prog_13_method_80_code 24 = .ok (.ifCond .eq 5, 3) := wt_op153 wb17m7_prog_13_method_80_code_c0 24 rfl rfl rfl
theorem wp_md_greedy_d27 : decode prog_13_method_80_code 27 = .ok (.iconst 0, 1) := wt_op3 wb17m7_prog_13_method_80_code_c0 27 rfl rfl
theorem wp_md_greedy_d28 : decode prog_13_method_80_code 28 = .ok (.ireturn, 1) := wt_op172 wb17m7_prog_13_method_80_code_c1 0 rfl rfl
theorem wp_md_greedy_d29 : decode prog_13_method_80_code 29 = .ok (.aload_n 0, 1) := wt_op42 wb17m7_prog_13_method_80_code_c1 1 rfl rfl
theorem wp_md_greedy_d30 : decode prog_13_method_80_code 30 = .ok (.bipush 100, 2) := wt_op16 wb17m7_prog_13_method_80_code_c1 2 rfl rfl rfl
theorem wp_md_greedy_d32 : decode prog_13_method_80_code 32 = .ok (.invokevirtual 372, 3) := wt_op182 wb17m7_prog_13_method_80_code_c1 4 rfl rfl rfl
theorem wp_md_greedy_d35 : decode prog_13_method_80_code 35 = .ok (.istore_n 2, 1) := wt_op61 wb17m7_prog_13_method_80_code_c1 7 rfl rfl
theorem wp_md_greedy_d36 : decode prog_13_method_80_code 36 = .ok (.aload_n 0, 1) := wt_op42 wb17m7_prog_13_method_80_code_c1 8 rfl rfl
theorem wp_md_greedy_d37 : decode prog_13_method_80_code 37 = .ok (.invokevirtual 366, 3) := wt_op182 wb17m7_prog_13_method_80_code_c1 9 rfl rfl rfl
theorem wp_md_greedy_d40 : decode prog_13_method_80_code 40 = .ok (.iload_n 1, 1) := wt_op27 wb17m7_prog_13_method_80_code_c1 12 rfl rfl
theorem wp_md_greedy_d41 : decode prog_13_method_80_code 41 = .ok (.ifCond .ne 11, 3) := wt_op154 wb17m7_prog_13_method_80_code_c1 13 rfl rfl rfl
theorem wp_md_greedy_d44 : decode prog_13_method_80_code 44 = .ok (.aload_n 0, 1) := wt_op42 wb17m7_prog_13_method_80_code_c1 16 rfl rfl
theorem wp_md_greedy_d45 : decode prog_13_method_80_code 45 = .ok (.iload_n 2, 1) := wt_op28 wb17m7_prog_13_method_80_code_c1 17 rfl rfl
theorem wp_md_greedy_d46 : decode prog_13_method_80_code 46 = .ok (.invokevirtual 369, 3) := wt_op182 wb17m7_prog_13_method_80_code_c1 18 rfl rfl rfl
theorem wp_md_greedy_d49 : decode prog_13_method_80_code 49 = .ok (.goto 4, 3) := wt_op167 wb17m7_prog_13_method_80_code_c1 21 rfl rfl rfl
theorem wp_md_greedy_d52 : decode prog_13_method_80_code 52 = .ok (.iload_n 2, 1) := wt_op28 wb17m7_prog_13_method_80_code_c1 24 rfl rfl
theorem wp_md_greedy_d53 : decode prog_13_method_80_code 53 = .ok (.ireturn, 1) := wt_op172 wb17m7_prog_13_method_80_code_c1 25 rfl rfl
noncomputable def wp_md_greedy_B20 (n : Nat) (x1 : Int32) (y1 : Int32) (σ : wt_St) : Option (Int32 × wt_St) :=
  (wp_md_bad n y1 (1 : Int32) σ).bind fun q3 =>
  if q3.1 = 0 then
    (wp_md_greedyAhead n (100 : Int32) q3.2).bind fun q5 =>
    (wp_md_putsBack n q5.2).bind fun q6 =>
    if x1 = 0 then
      (wp_md_worthOf n q5.1 q6).bind fun q8 =>
      some (q8.1, q8.2)
    else
      some (q5.1, q6)
  else
    some ((0 : Int32), q3.2)
set_option maxRecDepth 100000 in
set_option maxHeartbeats 4000000 in
theorem wp_md_greedy_B20_ok  {x1 : Int32} {X : wt_X} {n : Nat} {res : Int32 × wt_St} (hE : wt_Ok X prog_13_method_80_code 3 "WornTypeModel" 7 0) (hR : wt_Rt X (some .int) (some res.1) res.2) (hD : ∀ i, 108 ≤ i → i < 321 → wt_dom (wt_xw X) i)  {σ : wt_St} {y1 : Int32} (h : wp_md_greedy_B20 n x1 y1 σ = some res) : wt_V X 0 σ 20 [some (.ref (wt_ad (wt_xw X) 108)), some (.int x1), none] [.int y1, .ref (wt_ad (wt_xw X) 108)] := by
  unfold wp_md_greedy_B20 at h
  refine wt_iconst hE (1 : Int32) wp_md_greedy_d20 wt_ci_1 ?_
  obtain ⟨q3, hq3, h⟩ := wt_bi h
  refine wt_callVi hE [.int y1, .int (1 : Int32)] wt_lm_md_230 wt_ya_md_bad (wp_md_bad_ok hD hq3) (by omega) (hD 108 (by decide) (by decide)) wt_L108 rfl rfl rfl (Nat.le_of_ble_eq_true rfl) (Nat.zero_le _) wp_md_greedy_d21 (fun hbq3 => ?_)
  refine wt_if_eq hE 29 wp_md_greedy_d24 rfl (fun c4 => ?_) (fun c4 => ?_)
  · have h := wt_ip c4 h
    refine wt_aload_n hE wp_md_greedy_d29 rfl ?_
    refine wt_bipush hE (100 : Int32) wp_md_greedy_d30 wt_cb_100 ?_
    obtain ⟨q5, hq5, h⟩ := wt_bi h
    refine wt_callVi hE [.int (100 : Int32)] wt_lm_md_372 wt_ya_md_greedyAhead (wp_md_greedyAhead_ok hD hq5) (by omega) (hD 108 (by decide) (by decide)) wt_L108 rfl rfl rfl (Nat.le_of_ble_eq_true rfl) (Nat.zero_le _) wp_md_greedy_d32 (fun hbq5 => ?_)
    refine wt_istore_n hE [some (.ref (wt_ad (wt_xw X) 108)), some (.int x1), some (.int q5.1)] wp_md_greedy_d35 (by decide) rfl ?_
    refine wt_aload_n hE wp_md_greedy_d36 rfl ?_
    obtain ⟨q6, hq6, h⟩ := wt_bi h
    refine wt_callVv hE [] wt_lm_md_366 wt_ya_md_putsBack (wp_md_putsBack_ok hD hq6) (by omega) (hD 108 (by decide) (by decide)) wt_L108 rfl rfl rfl (Nat.le_of_ble_eq_true rfl) (Nat.zero_le _) wp_md_greedy_d37 ?_
    refine wt_iload_n hE wp_md_greedy_d40 rfl ?_
    refine wt_if_ne hE 52 wp_md_greedy_d41 rfl (fun c7 => ?_) (fun c7 => ?_)
    · have h := wt_in c7 h
      refine wt_iload_n hE wp_md_greedy_d52 rfl ?_
      cases h
      exact wt_iret hE hR wp_md_greedy_d53
    · have h := wt_ip c7 h
      refine wt_aload_n hE wp_md_greedy_d44 rfl ?_
      refine wt_iload_n hE wp_md_greedy_d45 rfl ?_
      obtain ⟨q8, hq8, h⟩ := wt_bi h
      refine wt_callVi hE [.int q5.1] wt_lm_md_369 wt_ya_md_worthOf (wp_md_worthOf_ok hD hq8) (by omega) (hD 108 (by decide) (by decide)) wt_L108 rfl rfl rfl (Nat.le_of_ble_eq_true rfl) (Nat.zero_le _) wp_md_greedy_d46 (fun hbq8 => ?_)
      refine wt_goto hE 53 wp_md_greedy_d49 rfl ?_
      cases h
      exact wt_iret hE hR wp_md_greedy_d53
  · have h := wt_in c4 h
    refine wt_iconst hE (0 : Int32) wp_md_greedy_d27 wt_ci_0 ?_
    cases h
    exact wt_iret hE hR wp_md_greedy_d28
noncomputable def wp_md_greedy (n : Nat) (x1 : Int32) (σ : wt_St) : Option (Int32 × wt_St) :=
  (wp_md_in n x1 (0 : Int32) (1 : Int32) (wt_sf σ 108 0 (0 : Int32))).bind fun q1 =>
  if q1.1 = 0 then
    wp_md_greedy_B20 n x1 (1 : Int32) q1.2
  else
    wp_md_greedy_B20 n x1 (0 : Int32) q1.2
set_option maxRecDepth 100000 in
set_option maxHeartbeats 4000000 in
theorem wp_md_greedy_ok {l : Launch} {w : wt_E} {n : Nat} {x1 : Int32} (hD : ∀ i, 108 ≤ i → i < 321 → wt_dom w i) {σ : wt_St} {q : Int32 × wt_St} (h : wp_md_greedy n x1 σ = some q) : wt_Ctr l w wt_y_md_greedy prog_13_method_80_code 3 (some .int) 7 [.ref (wt_ad w 108), .int x1] σ (some q.1) q.2 := by
  refine wt_ctr wt_pl_md_greedy rfl (Nat.le_of_ble_eq_true rfl) [some (.ref (wt_ad w 108)), some (.int x1), none] rfl ?_
  intro X hXl hXw hE hR
  subst hXl
  subst hXw
  have hE : wt_Ok X prog_13_method_80_code 3 "WornTypeModel" 7 0 := hE
  unfold wp_md_greedy at h
  refine wt_aload_n hE wp_md_greedy_d0 rfl ?_
  refine wt_iconst hE (0 : Int32) wp_md_greedy_d1 wt_ci_0 ?_
  refine wt_puti hE wt_lf_md_151 (hD 108 (by decide) (by decide)) wt_L108 rfl (fun q hq => by cases hq; rfl) wp_md_greedy_d2 ?_
  refine wt_aload_n hE wp_md_greedy_d5 rfl ?_
  refine wt_iload_n hE wp_md_greedy_d6 rfl ?_
  refine wt_iconst hE (0 : Int32) wp_md_greedy_d7 wt_ci_0 ?_
  refine wt_iconst hE (1 : Int32) wp_md_greedy_d8 wt_ci_1 ?_
  obtain ⟨q1, hq1, h⟩ := wt_bi h
  refine wt_callSi hE [.int x1, .int (0 : Int32), .int (1 : Int32)] wt_lm_md_185 wt_ya_md_in (wp_md_in_ok hq1) (by omega) rfl rfl (Nat.le_of_ble_eq_true rfl) (Nat.zero_le _) wp_md_greedy_d9 (fun hbq1 => ?_)
  refine wt_if_ne hE 19 wp_md_greedy_d12 rfl (fun c2 => ?_) (fun c2 => ?_)
  · have h := wt_in c2 h
    refine wt_iconst hE (0 : Int32) wp_md_greedy_d19 wt_ci_0 ?_
    exact wp_md_greedy_B20_ok hE hR hD h
  · have h := wt_ip c2 h
    refine wt_iconst hE (1 : Int32) wp_md_greedy_d15 wt_ci_1 ?_
    refine wt_goto hE 20 wp_md_greedy_d16 rfl ?_
    exact wp_md_greedy_B20_ok hE hR hD h
def wb17m7_prog_13_method_48_code_r1 : List (List Nat) := [172, 42, 180, 1, 21, 61, 42, 27, 181, 1, 21, 28, 172] :: []
def wb17m7_prog_13_method_48_code_r0 : List (List Nat) := [42, 3, 181, 0, 151, 42, 27, 3, 4, 184, 0, 185, 154, 0, 7, 4, 167, 0, 4, 3, 4, 182, 0, 230, 153, 0, 5, 3] :: wb17m7_prog_13_method_48_code_r1
set_option maxRecDepth 100000 in
theorem wb17m7_prog_13_method_48_code_c0 : wt_cs prog_13_method_48_code 0 wb17m7_prog_13_method_48_code_r0 := wt_cs_of (by decide +kernel)
theorem wb17m7_prog_13_method_48_code_c1 : wt_cs prog_13_method_48_code 28 wb17m7_prog_13_method_48_code_r1 := wt_cs_tl (m := 28) wb17m7_prog_13_method_48_code_c0 rfl rfl
theorem wp_md_habit_d0 : decode prog_13_method_48_code 0 = .ok (.aload_n 0, 1) := wt_op42 wb17m7_prog_13_method_48_code_c0 0 rfl rfl
theorem wp_md_habit_d1 : decode prog_13_method_48_code 1 = .ok (.iconst 0, 1) := wt_op3 wb17m7_prog_13_method_48_code_c0 1 rfl rfl
theorem wp_md_habit_d2 : decode prog_13_method_48_code 2 = .ok (.putfield 151, 3) := wt_op181 wb17m7_prog_13_method_48_code_c0 2 rfl rfl rfl
theorem wp_md_habit_d5 : decode prog_13_method_48_code 5 = .ok (.aload_n 0, 1) := wt_op42 wb17m7_prog_13_method_48_code_c0 5 rfl rfl
theorem wp_md_habit_d6 : decode prog_13_method_48_code 6 = .ok (.iload_n 1, 1) := wt_op27 wb17m7_prog_13_method_48_code_c0 6 rfl rfl
theorem wp_md_habit_d7 : decode prog_13_method_48_code 7 = .ok (.iconst 0, 1) := wt_op3 wb17m7_prog_13_method_48_code_c0 7 rfl rfl
theorem wp_md_habit_d8 : decode prog_13_method_48_code 8 = .ok (.iconst 1, 1) := wt_op4 wb17m7_prog_13_method_48_code_c0 8 rfl rfl
theorem wp_md_habit_d9 : decode prog_13_method_48_code 9 = .ok (.invokestatic 185, 3) := wt_op184 wb17m7_prog_13_method_48_code_c0 9 rfl rfl rfl
theorem wp_md_habit_d12 : decode prog_13_method_48_code 12 = .ok (.ifCond .ne 7, 3) := wt_op154 wb17m7_prog_13_method_48_code_c0 12 rfl rfl rfl
theorem wp_md_habit_d15 : decode prog_13_method_48_code 15 = .ok (.iconst 1, 1) := wt_op4 wb17m7_prog_13_method_48_code_c0 15 rfl rfl
theorem wp_md_habit_d16 : decode prog_13_method_48_code 16 = .ok (.goto 4, 3) := wt_op167 wb17m7_prog_13_method_48_code_c0 16 rfl rfl rfl
theorem wp_md_habit_d19 : decode prog_13_method_48_code 19 = .ok (.iconst 0, 1) := wt_op3 wb17m7_prog_13_method_48_code_c0 19 rfl rfl
theorem wp_md_habit_d20 : decode prog_13_method_48_code 20 = .ok (.iconst 1, 1) := wt_op4 wb17m7_prog_13_method_48_code_c0 20 rfl rfl
theorem wp_md_habit_d21 : decode prog_13_method_48_code 21 = .ok (.invokevirtual 230, 3) := wt_op182 wb17m7_prog_13_method_48_code_c0 21 rfl rfl rfl
theorem wp_md_habit_d24 : decode prog_13_method_48_code 24 = .ok (.ifCond .eq 5, 3) := wt_op153 wb17m7_prog_13_method_48_code_c0 24 rfl rfl rfl
theorem wp_md_habit_d27 : decode prog_13_method_48_code 27 = .ok (.iconst 0, 1) := wt_op3 wb17m7_prog_13_method_48_code_c0 27 rfl rfl
theorem wp_md_habit_d28 : decode prog_13_method_48_code 28 = .ok (.ireturn, 1) := wt_op172 wb17m7_prog_13_method_48_code_c1 0 rfl rfl
theorem wp_md_habit_d29 : decode prog_13_method_48_code 29 = .ok (.aload_n 0, 1) := wt_op42 wb17m7_prog_13_method_48_code_c1 1 rfl rfl
theorem wp_md_habit_d30 : decode prog_13_method_48_code 30 = .ok (.getfield 277, 3) := wt_op180 wb17m7_prog_13_method_48_code_c1 2 rfl rfl rfl
theorem wp_md_habit_d33 : decode prog_13_method_48_code 33 = .ok (.istore_n 2, 1) := wt_op61 wb17m7_prog_13_method_48_code_c1 5 rfl rfl
theorem wp_md_habit_d34 : decode prog_13_method_48_code 34 = .ok (.aload_n 0, 1) := wt_op42 wb17m7_prog_13_method_48_code_c1 6 rfl rfl
theorem wp_md_habit_d35 : decode prog_13_method_48_code 35 = .ok (.iload_n 1, 1) := wt_op27 wb17m7_prog_13_method_48_code_c1 7 rfl rfl
theorem wp_md_habit_d36 : decode prog_13_method_48_code 36 = .ok (.putfield 277, 3) := wt_op181 wb17m7_prog_13_method_48_code_c1 8 rfl rfl rfl
theorem wp_md_habit_d39 : decode prog_13_method_48_code 39 = .ok (.iload_n 2, 1) := wt_op28 wb17m7_prog_13_method_48_code_c1 11 rfl rfl
theorem wp_md_habit_d40 : decode prog_13_method_48_code 40 = .ok (.ireturn, 1) := wt_op172 wb17m7_prog_13_method_48_code_c1 12 rfl rfl
noncomputable def wp_md_habit_B20 (n : Nat) (x1 : Int32) (y1 : Int32) (σ : wt_St) : Option (Int32 × wt_St) :=
  (wp_md_bad n y1 (1 : Int32) σ).bind fun q3 =>
  if q3.1 = 0 then
    some ((wt_gf q3.2 108 26), (wt_sf q3.2 108 26 x1))
  else
    some ((0 : Int32), q3.2)
set_option maxRecDepth 100000 in
set_option maxHeartbeats 4000000 in
theorem wp_md_habit_B20_ok  {x1 : Int32} {X : wt_X} {n : Nat} {res : Int32 × wt_St} (hE : wt_Ok X prog_13_method_48_code 3 "WornTypeModel" 1 0) (hR : wt_Rt X (some .int) (some res.1) res.2) (hD : ∀ i, 108 ≤ i → i < 321 → wt_dom (wt_xw X) i)  {σ : wt_St} {y1 : Int32} (h : wp_md_habit_B20 n x1 y1 σ = some res) : wt_V X 0 σ 20 [some (.ref (wt_ad (wt_xw X) 108)), some (.int x1), none] [.int y1, .ref (wt_ad (wt_xw X) 108)] := by
  unfold wp_md_habit_B20 at h
  refine wt_iconst hE (1 : Int32) wp_md_habit_d20 wt_ci_1 ?_
  obtain ⟨q3, hq3, h⟩ := wt_bi h
  refine wt_callVi hE [.int y1, .int (1 : Int32)] wt_lm_md_230 wt_ya_md_bad (wp_md_bad_ok hD hq3) (by omega) (hD 108 (by decide) (by decide)) wt_L108 rfl rfl rfl (Nat.le_of_ble_eq_true rfl) (Nat.zero_le _) wp_md_habit_d21 (fun hbq3 => ?_)
  refine wt_if_eq hE 29 wp_md_habit_d24 rfl (fun c4 => ?_) (fun c4 => ?_)
  · have h := wt_ip c4 h
    refine wt_aload_n hE wp_md_habit_d29 rfl ?_
    refine wt_geti hE wt_lf_md_277 (hD 108 (by decide) (by decide)) wt_L108 rfl wp_md_habit_d30 ?_
    refine wt_istore_n hE [some (.ref (wt_ad (wt_xw X) 108)), some (.int x1), some (.int (wt_gf q3.2 108 26))] wp_md_habit_d33 (by decide) rfl ?_
    refine wt_aload_n hE wp_md_habit_d34 rfl ?_
    refine wt_iload_n hE wp_md_habit_d35 rfl ?_
    refine wt_puti hE wt_lf_md_277 (hD 108 (by decide) (by decide)) wt_L108 rfl (fun q hq => by cases hq; rfl) wp_md_habit_d36 ?_
    refine wt_iload_n hE wp_md_habit_d39 rfl ?_
    cases h
    exact wt_iret hE hR wp_md_habit_d40
  · have h := wt_in c4 h
    refine wt_iconst hE (0 : Int32) wp_md_habit_d27 wt_ci_0 ?_
    cases h
    exact wt_iret hE hR wp_md_habit_d28
noncomputable def wp_md_habit (n : Nat) (x1 : Int32) (σ : wt_St) : Option (Int32 × wt_St) :=
  (wp_md_in n x1 (0 : Int32) (1 : Int32) (wt_sf σ 108 0 (0 : Int32))).bind fun q1 =>
  if q1.1 = 0 then
    wp_md_habit_B20 n x1 (1 : Int32) q1.2
  else
    wp_md_habit_B20 n x1 (0 : Int32) q1.2
set_option maxRecDepth 100000 in
set_option maxHeartbeats 4000000 in
theorem wp_md_habit_ok {l : Launch} {w : wt_E} {n : Nat} {x1 : Int32} (hD : ∀ i, 108 ≤ i → i < 321 → wt_dom w i) {σ : wt_St} {q : Int32 × wt_St} (h : wp_md_habit n x1 σ = some q) : wt_Ctr l w wt_y_md_habit prog_13_method_48_code 3 (some .int) 1 [.ref (wt_ad w 108), .int x1] σ (some q.1) q.2 := by
  refine wt_ctr wt_pl_md_habit rfl (Nat.le_of_ble_eq_true rfl) [some (.ref (wt_ad w 108)), some (.int x1), none] rfl ?_
  intro X hXl hXw hE hR
  subst hXl
  subst hXw
  have hE : wt_Ok X prog_13_method_48_code 3 "WornTypeModel" 1 0 := hE
  unfold wp_md_habit at h
  refine wt_aload_n hE wp_md_habit_d0 rfl ?_
  refine wt_iconst hE (0 : Int32) wp_md_habit_d1 wt_ci_0 ?_
  refine wt_puti hE wt_lf_md_151 (hD 108 (by decide) (by decide)) wt_L108 rfl (fun q hq => by cases hq; rfl) wp_md_habit_d2 ?_
  refine wt_aload_n hE wp_md_habit_d5 rfl ?_
  refine wt_iload_n hE wp_md_habit_d6 rfl ?_
  refine wt_iconst hE (0 : Int32) wp_md_habit_d7 wt_ci_0 ?_
  refine wt_iconst hE (1 : Int32) wp_md_habit_d8 wt_ci_1 ?_
  obtain ⟨q1, hq1, h⟩ := wt_bi h
  refine wt_callSi hE [.int x1, .int (0 : Int32), .int (1 : Int32)] wt_lm_md_185 wt_ya_md_in (wp_md_in_ok hq1) (by omega) rfl rfl (Nat.le_of_ble_eq_true rfl) (Nat.zero_le _) wp_md_habit_d9 (fun hbq1 => ?_)
  refine wt_if_ne hE 19 wp_md_habit_d12 rfl (fun c2 => ?_) (fun c2 => ?_)
  · have h := wt_in c2 h
    refine wt_iconst hE (0 : Int32) wp_md_habit_d19 wt_ci_0 ?_
    exact wp_md_habit_B20_ok hE hR hD h
  · have h := wt_ip c2 h
    refine wt_iconst hE (1 : Int32) wp_md_habit_d15 wt_ci_1 ?_
    refine wt_goto hE 20 wp_md_habit_d16 rfl ?_
    exact wp_md_habit_B20_ok hE hR hD h
def wb17m7_prog_13_method_92_code_r1 : List (List Nat) := [46, 172] :: []
def wb17m7_prog_13_method_92_code_r0 : List (List Nat) := [29, 154, 0, 10, 43, 42, 180, 1, 131, 28, 79, 42, 89, 180, 1, 131, 4, 96, 181, 1, 131, 43, 42, 180, 1, 131, 4, 100] :: wb17m7_prog_13_method_92_code_r1
set_option maxRecDepth 100000 in
theorem wb17m7_prog_13_method_92_code_c0 : wt_cs prog_13_method_92_code 0 wb17m7_prog_13_method_92_code_r0 := wt_cs_of (by decide +kernel)
theorem wb17m7_prog_13_method_92_code_c1 : wt_cs prog_13_method_92_code 28 wb17m7_prog_13_method_92_code_r1 := wt_cs_tl (m := 28) wb17m7_prog_13_method_92_code_c0 rfl rfl
theorem wp_md_moves_d0 : decode prog_13_method_92_code 0 = .ok (.iload_n 3, 1) := wt_op29 wb17m7_prog_13_method_92_code_c0 0 rfl rfl
theorem wp_md_moves_d1 : decode prog_13_method_92_code 1 = .ok (.ifCond .ne 10, 3) := wt_op154 wb17m7_prog_13_method_92_code_c0 1 rfl rfl rfl
theorem wp_md_moves_d4 : decode prog_13_method_92_code 4 = .ok (.aload_n 1, 1) := wt_op43 wb17m7_prog_13_method_92_code_c0 4 rfl rfl
theorem wp_md_moves_d5 : decode prog_13_method_92_code 5 = .ok (.aload_n 0, 1) := wt_op42 wb17m7_prog_13_method_92_code_c0 5 rfl rfl
theorem wp_md_moves_d6 : decode prog_13_method_92_code 6 = .ok (.getfield 387, 3) := wt_op180 wb17m7_prog_13_method_92_code_c0 6 rfl rfl rfl
theorem wp_md_moves_d9 : decode prog_13_method_92_code 9 = .ok (.iload_n 2, 1) := wt_op28 wb17m7_prog_13_method_92_code_c0 9 rfl rfl
theorem wp_md_moves_d10 : decode prog_13_method_92_code 10 = .ok (.iastore, 1) := wt_op79 wb17m7_prog_13_method_92_code_c0 10 rfl rfl
theorem wp_md_moves_d11 : decode prog_13_method_92_code 11 = .ok (.aload_n 0, 1) := wt_op42 wb17m7_prog_13_method_92_code_c0 11 rfl rfl
theorem wp_md_moves_d12 : decode prog_13_method_92_code 12 = .ok (.dup, 1) := wt_op89 wb17m7_prog_13_method_92_code_c0 12 rfl rfl
theorem wp_md_moves_d13 : decode prog_13_method_92_code 13 = .ok (.getfield 387, 3) := wt_op180 wb17m7_prog_13_method_92_code_c0 13 rfl rfl rfl
theorem wp_md_moves_d16 : decode prog_13_method_92_code 16 = .ok (.iconst 1, 1) := wt_op4 wb17m7_prog_13_method_92_code_c0 16 rfl rfl
theorem wp_md_moves_d17 : decode prog_13_method_92_code 17 = .ok (.iadd, 1) := wt_op96 wb17m7_prog_13_method_92_code_c0 17 rfl rfl
theorem wp_md_moves_d18 : decode prog_13_method_92_code 18 = .ok (.putfield 387, 3) := wt_op181 wb17m7_prog_13_method_92_code_c0 18 rfl rfl rfl
theorem wp_md_moves_d21 : decode prog_13_method_92_code 21 = .ok (.aload_n 1, 1) := wt_op43 wb17m7_prog_13_method_92_code_c0 21 rfl rfl
theorem wp_md_moves_d22 : decode prog_13_method_92_code 22 = .ok (.aload_n 0, 1) := wt_op42 wb17m7_prog_13_method_92_code_c0 22 rfl rfl
theorem wp_md_moves_d23 : decode prog_13_method_92_code 23 = .ok (.getfield 387, 3) := wt_op180 wb17m7_prog_13_method_92_code_c0 23 rfl rfl rfl
theorem wp_md_moves_d26 : decode prog_13_method_92_code 26 = .ok (.iconst 1, 1) := wt_op4 wb17m7_prog_13_method_92_code_c0 26 rfl rfl
theorem wp_md_moves_d27 : decode prog_13_method_92_code 27 = .ok (.isub, 1) := wt_op100 wb17m7_prog_13_method_92_code_c0 27 rfl rfl
theorem wp_md_moves_d28 : decode prog_13_method_92_code 28 = .ok (.iaload, 1) := wt_op46 wb17m7_prog_13_method_92_code_c1 0 rfl rfl
theorem wp_md_moves_d29 : decode prog_13_method_92_code 29 = .ok (.ireturn, 1) := wt_op172 wb17m7_prog_13_method_92_code_c1 1 rfl rfl
noncomputable def wp_md_moves_B11 (n : Nat) (a1 : Nat) (σ : wt_St) : Option (Int32 × wt_St) :=
  if ((wt_gf (wt_sf σ 108 42 ((wt_gf σ 108 42) + (1 : Int32))) 108 42) - (1 : Int32)) < 0 ∨ (wt_ln a1) ≤ Int32.toNatClampNeg ((wt_gf (wt_sf σ 108 42 ((wt_gf σ 108 42) + (1 : Int32))) 108 42) - (1 : Int32)) then none else
  some ((wt_ga (wt_sf σ 108 42 ((wt_gf σ 108 42) + (1 : Int32))) a1 (Int32.toNatClampNeg ((wt_gf (wt_sf σ 108 42 ((wt_gf σ 108 42) + (1 : Int32))) 108 42) - (1 : Int32)))), (wt_sf σ 108 42 ((wt_gf σ 108 42) + (1 : Int32))))
set_option maxRecDepth 100000 in
set_option maxHeartbeats 4000000 in
theorem wp_md_moves_B11_ok  {a1 : Nat} {X : wt_X} {n : Nat} {res : Int32 × wt_St} (hE : wt_Ok X prog_13_method_92_code 4 "WornTypeModel" 0 0) (hR : wt_Rt X (some .int) (some res.1) res.2) (hD : ∀ i, 108 ≤ i → i < 321 → wt_dom (wt_xw X) i) (hA_a1 : wt_LAY[a1]? = some (0, wt_ln a1, [])) (hd_a1 : wt_dom (wt_xw X) a1) {σ : wt_St} (h : wp_md_moves_B11 n a1 σ = some res) : wt_V X 0 σ 11 [some (.ref (wt_ad (wt_xw X) 108)), some (.ref (wt_ad (wt_xw X) a1)), none, none] [] := by
  unfold wp_md_moves_B11 at h
  refine wt_aload_n hE wp_md_moves_d11 rfl ?_
  refine wt_dup hE wp_md_moves_d12 rfl ?_
  refine wt_geti hE wt_lf_md_387 (hD 108 (by decide) (by decide)) wt_L108 rfl wp_md_moves_d13 ?_
  refine wt_iconst hE (1 : Int32) wp_md_moves_d16 wt_ci_1 ?_
  refine wt_iadd hE wp_md_moves_d17 ?_
  refine wt_puti hE wt_lf_md_387 (hD 108 (by decide) (by decide)) wt_L108 rfl (fun q hq => by cases hq; rfl) wp_md_moves_d18 ?_
  refine wt_aload_n hE wp_md_moves_d21 rfl ?_
  refine wt_aload_n hE wp_md_moves_d22 rfl ?_
  refine wt_geti hE wt_lf_md_387 (hD 108 (by decide) (by decide)) wt_L108 rfl wp_md_moves_d23 ?_
  refine wt_iconst hE (1 : Int32) wp_md_moves_d26 wt_ci_1 ?_
  refine wt_isub hE wp_md_moves_d27 ?_
  obtain ⟨g2, h⟩ := wt_gd h
  refine wt_iald hE hd_a1 hA_a1 g2 wp_md_moves_d28 ?_
  cases h
  exact wt_iret hE hR wp_md_moves_d29
noncomputable def wp_md_moves (n : Nat) (a1 : Nat) (x2 : Int32) (x3 : Int32) (σ : wt_St) : Option (Int32 × wt_St) :=
  if x3 = 0 then
    if (wt_gf σ 108 42) < 0 ∨ (wt_ln a1) ≤ Int32.toNatClampNeg (wt_gf σ 108 42) then none else
    wp_md_moves_B11 n a1 (wt_sa σ a1 (Int32.toNatClampNeg (wt_gf σ 108 42)) x2)
  else
    wp_md_moves_B11 n a1 σ
set_option maxRecDepth 100000 in
set_option maxHeartbeats 4000000 in
theorem wp_md_moves_ok {l : Launch} {w : wt_E} {n : Nat} {a1 : Nat} {x2 : Int32} {x3 : Int32} (hD : ∀ i, 108 ≤ i → i < 321 → wt_dom w i) (hA_a1 : wt_LAY[a1]? = some (0, wt_ln a1, [])) (hd_a1 : wt_dom w a1) {σ : wt_St} {q : Int32 × wt_St} (h : wp_md_moves n a1 x2 x3 σ = some q) : wt_Ctr l w wt_y_md_moves prog_13_method_92_code 4 (some .int) 0 [.ref (wt_ad w 108), .ref (wt_ad w a1), .int x2, .int x3] σ (some q.1) q.2 := by
  refine wt_ctr wt_pl_md_moves rfl (Nat.le_of_ble_eq_true rfl) [some (.ref (wt_ad w 108)), some (.ref (wt_ad w a1)), some (.int x2), some (.int x3)] rfl ?_
  intro X hXl hXw hE hR
  subst hXl
  subst hXw
  have hE : wt_Ok X prog_13_method_92_code 4 "WornTypeModel" 0 0 := hE
  unfold wp_md_moves at h
  refine wt_iload_n hE wp_md_moves_d0 rfl ?_
  refine wt_if_ne hE 11 wp_md_moves_d1 rfl (fun c1 => ?_) (fun c1 => ?_)
  · have h := wt_in c1 h
    refine wt_wk [true, true, false, false] rfl ?_
    exact wp_md_moves_B11_ok hE hR hD hA_a1 hd_a1 h
  · have h := wt_ip c1 h
    refine wt_aload_n hE wp_md_moves_d4 rfl ?_
    refine wt_aload_n hE wp_md_moves_d5 rfl ?_
    refine wt_geti hE wt_lf_md_387 (hD 108 (by decide) (by decide)) wt_L108 rfl wp_md_moves_d6 ?_
    refine wt_iload_n hE wp_md_moves_d9 rfl ?_
    obtain ⟨g3, h⟩ := wt_gd h
    refine wt_iast hE hd_a1 hA_a1 g3 wp_md_moves_d10 ?_
    refine wt_wk [true, true, false, false] rfl ?_
    exact wp_md_moves_B11_ok hE hR hD hA_a1 hd_a1 h
def wb17m7_prog_13_method_93_code_r7 : List (List Nat) := [180, 0, 94, 29, 50, 21, 4, 46, 28, 182, 1, 134, 79, 132, 4, 1, 167, 255, 223, 132, 3, 1, 167, 255, 208, 177] :: []
def wb17m7_prog_13_method_93_code_r6 : List (List Nat) := [3, 62, 29, 16, 10, 162, 0, 48, 3, 54, 4, 21, 4, 7, 162, 0, 33, 42, 180, 0, 94, 29, 50, 21, 4, 42, 43, 42] :: wb17m7_prog_13_method_93_code_r7
def wb17m7_prog_13_method_93_code_r5 : List (List Nat) := [21, 4, 42, 43, 42, 180, 0, 106, 29, 50, 21, 4, 46, 28, 182, 1, 134, 79, 132, 4, 1, 167, 255, 222, 132, 3, 1, 167, 255, 172] :: wb17m7_prog_13_method_93_code_r6
def wb17m7_prog_13_method_93_code_r4 : List (List Nat) := [43, 42, 180, 0, 103, 29, 46, 28, 182, 1, 134, 79, 3, 54, 4, 21, 4, 16, 108, 162, 0, 33, 42, 180, 0, 106, 29, 50] :: wb17m7_prog_13_method_93_code_r5
def wb17m7_prog_13_method_93_code_r3 : List (List Nat) := [7, 162, 0, 85, 42, 180, 0, 100, 29, 42, 43, 42, 180, 0, 100, 29, 46, 28, 182, 1, 134, 79, 42, 180, 0, 103, 29, 42] :: wb17m7_prog_13_method_93_code_r4
def wb17m7_prog_13_method_93_code_r2 : List (List Nat) := [79, 42, 180, 0, 59, 29, 42, 43, 42, 180, 0, 59, 29, 46, 28, 182, 1, 134, 79, 132, 3, 1, 167, 255, 210, 3, 62, 29] :: wb17m7_prog_13_method_93_code_r3
def wb17m7_prog_13_method_93_code_r1 : List (List Nat) := [181, 1, 12, 3, 62, 29, 17, 1, 82, 162, 0, 45, 42, 180, 0, 50, 29, 42, 43, 42, 180, 0, 50, 29, 46, 28, 182, 1, 134] :: wb17m7_prog_13_method_93_code_r2
def wb17m7_prog_13_method_93_code_r0 : List (List Nat) := [42, 3, 181, 1, 131, 42, 42, 43, 42, 180, 1, 21, 28, 182, 1, 134, 181, 1, 21, 42, 42, 43, 42, 180, 1, 12, 28, 182, 1, 134] :: wb17m7_prog_13_method_93_code_r1
set_option maxRecDepth 100000 in
theorem wb17m7_prog_13_method_93_code_c0 : wt_cs prog_13_method_93_code 0 wb17m7_prog_13_method_93_code_r0 := wt_cs_of (by decide +kernel)
theorem wb17m7_prog_13_method_93_code_c1 : wt_cs prog_13_method_93_code 30 wb17m7_prog_13_method_93_code_r1 := wt_cs_tl (m := 30) wb17m7_prog_13_method_93_code_c0 rfl rfl
theorem wb17m7_prog_13_method_93_code_c2 : wt_cs prog_13_method_93_code 59 wb17m7_prog_13_method_93_code_r2 := wt_cs_tl (m := 29) wb17m7_prog_13_method_93_code_c1 rfl rfl
theorem wb17m7_prog_13_method_93_code_c3 : wt_cs prog_13_method_93_code 87 wb17m7_prog_13_method_93_code_r3 := wt_cs_tl (m := 28) wb17m7_prog_13_method_93_code_c2 rfl rfl
theorem wb17m7_prog_13_method_93_code_c4 : wt_cs prog_13_method_93_code 115 wb17m7_prog_13_method_93_code_r4 := wt_cs_tl (m := 28) wb17m7_prog_13_method_93_code_c3 rfl rfl
theorem wb17m7_prog_13_method_93_code_c5 : wt_cs prog_13_method_93_code 143 wb17m7_prog_13_method_93_code_r5 := wt_cs_tl (m := 28) wb17m7_prog_13_method_93_code_c4 rfl rfl
theorem wb17m7_prog_13_method_93_code_c6 : wt_cs prog_13_method_93_code 173 wb17m7_prog_13_method_93_code_r6 := wt_cs_tl (m := 30) wb17m7_prog_13_method_93_code_c5 rfl rfl
theorem wb17m7_prog_13_method_93_code_c7 : wt_cs prog_13_method_93_code 201 wb17m7_prog_13_method_93_code_r7 := wt_cs_tl (m := 28) wb17m7_prog_13_method_93_code_c6 rfl rfl
theorem wp_md_movesAll_d0 : decode prog_13_method_93_code 0 = .ok (.aload_n 0, 1) := wt_op42 wb17m7_prog_13_method_93_code_c0 0 rfl rfl
theorem wp_md_movesAll_d1 : decode prog_13_method_93_code 1 = .ok (.iconst 0, 1) := wt_op3 wb17m7_prog_13_method_93_code_c0 1 rfl rfl
theorem wp_md_movesAll_d2 : decode prog_13_method_93_code 2 = .ok (.putfield 387, 3) := wt_op181 wb17m7_prog_13_method_93_code_c0 2 rfl rfl rfl
theorem wp_md_movesAll_d5 : decode prog_13_method_93_code 5 = .ok (.aload_n 0, 1) := wt_op42 wb17m7_prog_13_method_93_code_c0 5 rfl rfl
theorem wp_md_movesAll_d6 : decode prog_13_method_93_code 6 = .ok (.aload_n 0, 1) := wt_op42 wb17m7_prog_13_method_93_code_c0 6 rfl rfl
theorem wp_md_movesAll_d7 : decode prog_13_method_93_code 7 = .ok (.aload_n 1, 1) := wt_op43 wb17m7_prog_13_method_93_code_c0 7 rfl rfl
theorem wp_md_movesAll_d8 : decode prog_13_method_93_code 8 = .ok (.aload_n 0, 1) := wt_op42 wb17m7_prog_13_method_93_code_c0 8 rfl rfl
theorem wp_md_movesAll_d9 : decode prog_13_method_93_code 9 = .ok (.getfield 277, 3) := wt_op180 wb17m7_prog_13_method_93_code_c0 9 rfl rfl rfl
theorem wp_md_movesAll_d12 : decode prog_13_method_93_code 12 = .ok (.iload_n 2, 1) := wt_op28 wb17m7_prog_13_method_93_code_c0 12 rfl rfl
theorem wp_md_movesAll_d13 : decode prog_13_method_93_code 13 = .ok (.invokevirtual 390, 3) := wt_op182 wb17m7_prog_13_method_93_code_c0 13 rfl rfl rfl
theorem wp_md_movesAll_d16 : decode prog_13_method_93_code 16 = .ok (.putfield 277, 3) := wt_op181 wb17m7_prog_13_method_93_code_c0 16 rfl rfl rfl
theorem wp_md_movesAll_d19 : decode prog_13_method_93_code 19 = .ok (.aload_n 0, 1) := wt_op42 wb17m7_prog_13_method_93_code_c0 19 rfl rfl
theorem wp_md_movesAll_d20 : decode prog_13_method_93_code 20 = .ok (.aload_n 0, 1) := wt_op42 wb17m7_prog_13_method_93_code_c0 20 rfl rfl
theorem wp_md_movesAll_d21 : decode prog_13_method_93_code 21 = .ok (.aload_n 1, 1) := wt_op43 wb17m7_prog_13_method_93_code_c0 21 rfl rfl
theorem wp_md_movesAll_d22 : decode prog_13_method_93_code 22 = .ok (.aload_n 0, 1) := wt_op42 wb17m7_prog_13_method_93_code_c0 22 rfl rfl
theorem wp_md_movesAll_d23 : decode prog_13_method_93_code 23 = .ok (.getfield 268, 3) := wt_op180 wb17m7_prog_13_method_93_code_c0 23 rfl rfl rfl
theorem wp_md_movesAll_d26 : decode prog_13_method_93_code 26 = .ok (.iload_n 2, 1) := wt_op28 wb17m7_prog_13_method_93_code_c0 26 rfl rfl
theorem wp_md_movesAll_d27 : decode prog_13_method_93_code 27 = .ok (.invokevirtual 390, 3) := wt_op182 wb17m7_prog_13_method_93_code_c0 27 rfl rfl rfl
theorem wp_md_movesAll_d30 : decode prog_13_method_93_code 30 = .ok (.putfield 268, 3) := wt_op181 wb17m7_prog_13_method_93_code_c1 0 rfl rfl rfl
theorem wp_md_movesAll_d33 : decode prog_13_method_93_code 33 = .ok (.iconst 0, 1) := wt_op3 wb17m7_prog_13_method_93_code_c1 3 rfl rfl
theorem wp_md_movesAll_d34 : decode prog_13_method_93_code 34 = .ok (.istore_n 3, 1) := wt_op62 wb17m7_prog_13_method_93_code_c1 4 rfl rfl
theorem wp_md_movesAll_d35 : decode prog_13_method_93_code 35 = .ok (.iload_n 3, 1) := wt_op29 wb17m7_prog_13_method_93_code_c1 5 rfl rfl
theorem wp_md_movesAll_d36 : decode prog_13_method_93_code 36 = .ok (.sipush 338, 3) := wt_op17 wb17m7_prog_13_method_93_code_c1 6 rfl rfl rfl
theorem wp_md_movesAll_d39 : decode prog_13_method_93_code 39 = .ok (.if_icmp .ge 45, 3) := wt_op162 wb17m7_prog_13_method_93_code_c1 9 rfl rfl rfl
theorem wp_md_movesAll_d42 : decode prog_13_method_93_code 42 = .ok (.aload_n 0, 1) := wt_op42 wb17m7_prog_13_method_93_code_c1 12 rfl rfl
theorem wp_md_movesAll_d43 : decode prog_13_method_93_code 43 = .ok (.getfield 50, 3) := wt_op180 wb17m7_prog_13_method_93_code_c1 13 rfl rfl rfl
theorem wp_md_movesAll_d46 : decode prog_13_method_93_code 46 = .ok (.iload_n 3, 1) := wt_op29 wb17m7_prog_13_method_93_code_c1 16 rfl rfl
theorem wp_md_movesAll_d47 : decode prog_13_method_93_code 47 = .ok (.aload_n 0, 1) := wt_op42 wb17m7_prog_13_method_93_code_c1 17 rfl rfl
theorem wp_md_movesAll_d48 : decode prog_13_method_93_code 48 = .ok (.aload_n 1, 1) := wt_op43 wb17m7_prog_13_method_93_code_c1 18 rfl rfl
theorem wp_md_movesAll_d49 : decode prog_13_method_93_code 49 = .ok (.aload_n 0, 1) := wt_op42 wb17m7_prog_13_method_93_code_c1 19 rfl rfl
theorem wp_md_movesAll_d50 : decode prog_13_method_93_code 50 = .ok (.getfield 50, 3) := wt_op180 wb17m7_prog_13_method_93_code_c1 20 rfl rfl rfl
theorem wp_md_movesAll_d53 : decode prog_13_method_93_code 53 = .ok (.iload_n 3, 1) := wt_op29 wb17m7_prog_13_method_93_code_c1 23 rfl rfl
theorem wp_md_movesAll_d54 : decode prog_13_method_93_code 54 = .ok (.iaload, 1) := wt_op46 wb17m7_prog_13_method_93_code_c1 24 rfl rfl
theorem wp_md_movesAll_d55 : decode prog_13_method_93_code 55 = .ok (.iload_n 2, 1) := wt_op28 wb17m7_prog_13_method_93_code_c1 25 rfl rfl
theorem wp_md_movesAll_d56 : decode prog_13_method_93_code 56 = .ok (.invokevirtual 390, 3) := wt_op182 wb17m7_prog_13_method_93_code_c1 26 rfl rfl rfl
theorem wp_md_movesAll_d59 : decode prog_13_method_93_code 59 = .ok (.iastore, 1) := wt_op79 wb17m7_prog_13_method_93_code_c2 0 rfl rfl
theorem wp_md_movesAll_d60 : decode prog_13_method_93_code 60 = .ok (.aload_n 0, 1) := wt_op42 wb17m7_prog_13_method_93_code_c2 1 rfl rfl
theorem wp_md_movesAll_d61 : decode prog_13_method_93_code 61 = .ok (.getfield 59, 3) := wt_op180 wb17m7_prog_13_method_93_code_c2 2 rfl rfl rfl
theorem wp_md_movesAll_d64 : decode prog_13_method_93_code 64 = .ok (.iload_n 3, 1) := wt_op29 wb17m7_prog_13_method_93_code_c2 5 rfl rfl
theorem wp_md_movesAll_d65 : decode prog_13_method_93_code 65 = .ok (.aload_n 0, 1) := wt_op42 wb17m7_prog_13_method_93_code_c2 6 rfl rfl
theorem wp_md_movesAll_d66 : decode prog_13_method_93_code 66 = .ok (.aload_n 1, 1) := wt_op43 wb17m7_prog_13_method_93_code_c2 7 rfl rfl
theorem wp_md_movesAll_d67 : decode prog_13_method_93_code 67 = .ok (.aload_n 0, 1) := wt_op42 wb17m7_prog_13_method_93_code_c2 8 rfl rfl
theorem wp_md_movesAll_d68 : decode prog_13_method_93_code 68 = .ok (.getfield 59, 3) := wt_op180 wb17m7_prog_13_method_93_code_c2 9 rfl rfl rfl
theorem wp_md_movesAll_d71 : decode prog_13_method_93_code 71 = .ok (.iload_n 3, 1) := wt_op29 wb17m7_prog_13_method_93_code_c2 12 rfl rfl
theorem wp_md_movesAll_d72 : decode prog_13_method_93_code 72 = .ok (.iaload, 1) := wt_op46 wb17m7_prog_13_method_93_code_c2 13 rfl rfl
theorem wp_md_movesAll_d73 : decode prog_13_method_93_code 73 = .ok (.iload_n 2, 1) := wt_op28 wb17m7_prog_13_method_93_code_c2 14 rfl rfl
theorem wp_md_movesAll_d74 : decode prog_13_method_93_code 74 = .ok (.invokevirtual 390, 3) := wt_op182 wb17m7_prog_13_method_93_code_c2 15 rfl rfl rfl
theorem wp_md_movesAll_d77 : decode prog_13_method_93_code 77 = .ok (.iastore, 1) := wt_op79 wb17m7_prog_13_method_93_code_c2 18 rfl rfl
theorem wp_md_movesAll_d78 : decode prog_13_method_93_code 78 = .ok (.iinc 3 1, 3) := wt_op132 wb17m7_prog_13_method_93_code_c2 19 rfl rfl rfl
theorem wp_md_movesAll_d81 : decode prog_13_method_93_code 81 = .ok (.goto (-46), 3) := wt_op167 wb17m7_prog_13_method_93_code_c2 22 rfl rfl rfl
theorem wp_md_movesAll_d84 : decode prog_13_method_93_code 84 = .ok (.iconst 0, 1) := wt_op3 wb17m7_prog_13_method_93_code_c2 25 rfl rfl
theorem wp_md_movesAll_d85 : decode prog_13_method_93_code 85 = .ok (.istore_n 3, 1) := wt_op62 wb17m7_prog_13_method_93_code_c2 26 rfl rfl
theorem wp_md_movesAll_d86 : decode prog_13_method_93_code 86 = .ok (.iload_n 3, 1) := wt_op29 wb17m7_prog_13_method_93_code_c2 27 rfl rfl
theorem wp_md_movesAll_d87 : decode prog_13_method_93_code 87 = .ok (.iconst 4, 1) := wt_op7 wb17m7_prog_13_method_93_code_c3 0 rfl rfl
theorem wp_md_movesAll_d88 : decode prog_13_method_93_code 88 = .ok (.if_icmp .ge 85, 3) := wt_op162 wb17m7_prog_13_method_93_code_c3 1 rfl rfl rfl
theorem wp_md_movesAll_d91 : decode prog_13_method_93_code 91 = .ok (.aload_n 0, 1) := wt_op42 wb17m7_prog_13_method_93_code_c3 4 rfl rfl
theorem wp_md_movesAll_d92 : decode prog_13_method_93_code 92 = .ok (.getfield 100, 3) := wt_op180 wb17m7_prog_13_method_93_code_c3 5 rfl rfl rfl
theorem wp_md_movesAll_d95 : decode prog_13_method_93_code 95 = .ok (.iload_n 3, 1) := wt_op29 wb17m7_prog_13_method_93_code_c3 8 rfl rfl
theorem wp_md_movesAll_d96 : decode prog_13_method_93_code 96 = .ok (.aload_n 0, 1) := wt_op42 wb17m7_prog_13_method_93_code_c3 9 rfl rfl
theorem wp_md_movesAll_d97 : decode prog_13_method_93_code 97 = .ok (.aload_n 1, 1) := wt_op43 wb17m7_prog_13_method_93_code_c3 10 rfl rfl
theorem wp_md_movesAll_d98 : decode prog_13_method_93_code 98 = .ok (.aload_n 0, 1) := wt_op42 wb17m7_prog_13_method_93_code_c3 11 rfl rfl
theorem wp_md_movesAll_d99 : decode prog_13_method_93_code 99 = .ok (.getfield 100, 3) := wt_op180 wb17m7_prog_13_method_93_code_c3 12 rfl rfl rfl
theorem wp_md_movesAll_d102 : decode prog_13_method_93_code 102 = .ok (.iload_n 3, 1) := wt_op29 wb17m7_prog_13_method_93_code_c3 15 rfl rfl
theorem wp_md_movesAll_d103 : decode prog_13_method_93_code 103 = .ok (.iaload, 1) := wt_op46 wb17m7_prog_13_method_93_code_c3 16 rfl rfl
theorem wp_md_movesAll_d104 : decode prog_13_method_93_code 104 = .ok (.iload_n 2, 1) := wt_op28 wb17m7_prog_13_method_93_code_c3 17 rfl rfl
theorem wp_md_movesAll_d105 : decode prog_13_method_93_code 105 = .ok (.invokevirtual 390, 3) := wt_op182 wb17m7_prog_13_method_93_code_c3 18 rfl rfl rfl
theorem wp_md_movesAll_d108 : decode prog_13_method_93_code 108 = .ok (.iastore, 1) := wt_op79 wb17m7_prog_13_method_93_code_c3 21 rfl rfl
theorem wp_md_movesAll_d109 : decode prog_13_method_93_code 109 = .ok (.aload_n 0, 1) := wt_op42 wb17m7_prog_13_method_93_code_c3 22 rfl rfl
theorem wp_md_movesAll_d110 : decode prog_13_method_93_code 110 = .ok (.getfield 103, 3) := wt_op180 wb17m7_prog_13_method_93_code_c3 23 rfl rfl rfl
theorem wp_md_movesAll_d113 : decode prog_13_method_93_code 113 = .ok (.iload_n 3, 1) := wt_op29 wb17m7_prog_13_method_93_code_c3 26 rfl rfl
theorem wp_md_movesAll_d114 : decode prog_13_method_93_code 114 = .ok (.aload_n 0, 1) := wt_op42 wb17m7_prog_13_method_93_code_c3 27 rfl rfl
theorem wp_md_movesAll_d115 : decode prog_13_method_93_code 115 = .ok (.aload_n 1, 1) := wt_op43 wb17m7_prog_13_method_93_code_c4 0 rfl rfl
theorem wp_md_movesAll_d116 : decode prog_13_method_93_code 116 = .ok (.aload_n 0, 1) := wt_op42 wb17m7_prog_13_method_93_code_c4 1 rfl rfl
theorem wp_md_movesAll_d117 : decode prog_13_method_93_code 117 = .ok (.getfield 103, 3) := wt_op180 wb17m7_prog_13_method_93_code_c4 2 rfl rfl rfl
theorem wp_md_movesAll_d120 : decode prog_13_method_93_code 120 = .ok (.iload_n 3, 1) := wt_op29 wb17m7_prog_13_method_93_code_c4 5 rfl rfl
theorem wp_md_movesAll_d121 : decode prog_13_method_93_code 121 = .ok (.iaload, 1) := wt_op46 wb17m7_prog_13_method_93_code_c4 6 rfl rfl
theorem wp_md_movesAll_d122 : decode prog_13_method_93_code 122 = .ok (.iload_n 2, 1) := wt_op28 wb17m7_prog_13_method_93_code_c4 7 rfl rfl
theorem wp_md_movesAll_d123 : decode prog_13_method_93_code 123 = .ok (.invokevirtual 390, 3) := wt_op182 wb17m7_prog_13_method_93_code_c4 8 rfl rfl rfl
theorem wp_md_movesAll_d126 : decode prog_13_method_93_code 126 = .ok (.iastore, 1) := wt_op79 wb17m7_prog_13_method_93_code_c4 11 rfl rfl
theorem wp_md_movesAll_d127 : decode prog_13_method_93_code 127 = .ok (.iconst 0, 1) := wt_op3 wb17m7_prog_13_method_93_code_c4 12 rfl rfl
theorem wp_md_movesAll_d128 : decode prog_13_method_93_code 128 = .ok (.istore 4, 2) := wt_op54 wb17m7_prog_13_method_93_code_c4 13 rfl rfl
theorem wp_md_movesAll_d130 : decode prog_13_method_93_code 130 = .ok (.iload 4, 2) := wt_op21 wb17m7_prog_13_method_93_code_c4 15 rfl rfl
theorem wp_md_movesAll_d132 : decode prog_13_method_93_code 132 = .ok (.bipush 108, 2) := wt_op16 wb17m7_prog_13_method_93_code_c4 17 rfl rfl rfl
theorem wp_md_movesAll_d134 : decode prog_13_method_93_code 134 = .ok (.if_icmp .ge 33, 3) := wt_op162 wb17m7_prog_13_method_93_code_c4 19 rfl rfl rfl
theorem wp_md_movesAll_d137 : decode prog_13_method_93_code 137 = .ok (.aload_n 0, 1) := wt_op42 wb17m7_prog_13_method_93_code_c4 22 rfl rfl
theorem wp_md_movesAll_d138 : decode prog_13_method_93_code 138 = .ok (.getfield 106, 3) := wt_op180 wb17m7_prog_13_method_93_code_c4 23 rfl rfl rfl
theorem wp_md_movesAll_d141 : decode prog_13_method_93_code 141 = .ok (.iload_n 3, 1) := wt_op29 wb17m7_prog_13_method_93_code_c4 26 rfl rfl
theorem wp_md_movesAll_d142 : decode prog_13_method_93_code 142 = .ok (.aaload, 1) := wt_op50 wb17m7_prog_13_method_93_code_c4 27 rfl rfl
theorem wp_md_movesAll_d143 : decode prog_13_method_93_code 143 = .ok (.iload 4, 2) := wt_op21 wb17m7_prog_13_method_93_code_c5 0 rfl rfl
theorem wp_md_movesAll_d145 : decode prog_13_method_93_code 145 = .ok (.aload_n 0, 1) := wt_op42 wb17m7_prog_13_method_93_code_c5 2 rfl rfl
theorem wp_md_movesAll_d146 : decode prog_13_method_93_code 146 = .ok (.aload_n 1, 1) := wt_op43 wb17m7_prog_13_method_93_code_c5 3 rfl rfl
theorem wp_md_movesAll_d147 : decode prog_13_method_93_code 147 = .ok (.aload_n 0, 1) := wt_op42 wb17m7_prog_13_method_93_code_c5 4 rfl rfl
theorem wp_md_movesAll_d148 : decode prog_13_method_93_code 148 = .ok (.getfield 106, 3) := wt_op180 wb17m7_prog_13_method_93_code_c5 5 rfl rfl rfl
theorem wp_md_movesAll_d151 : decode prog_13_method_93_code 151 = .ok (.iload_n 3, 1) := wt_op29 wb17m7_prog_13_method_93_code_c5 8 rfl rfl
theorem wp_md_movesAll_d152 : decode prog_13_method_93_code 152 = .ok (.aaload, 1) := wt_op50 wb17m7_prog_13_method_93_code_c5 9 rfl rfl
theorem wp_md_movesAll_d153 : decode prog_13_method_93_code 153 = .ok (.iload 4, 2) := wt_op21 wb17m7_prog_13_method_93_code_c5 10 rfl rfl
theorem wp_md_movesAll_d155 : decode prog_13_method_93_code 155 = .ok (.iaload, 1) := wt_op46 wb17m7_prog_13_method_93_code_c5 12 rfl rfl
theorem wp_md_movesAll_d156 : decode prog_13_method_93_code 156 = .ok (.iload_n 2, 1) := wt_op28 wb17m7_prog_13_method_93_code_c5 13 rfl rfl
theorem wp_md_movesAll_d157 : decode prog_13_method_93_code 157 = .ok (.invokevirtual 390, 3) := wt_op182 wb17m7_prog_13_method_93_code_c5 14 rfl rfl rfl
theorem wp_md_movesAll_d160 : decode prog_13_method_93_code 160 = .ok (.iastore, 1) := wt_op79 wb17m7_prog_13_method_93_code_c5 17 rfl rfl
theorem wp_md_movesAll_d161 : decode prog_13_method_93_code 161 = .ok (.iinc 4 1, 3) := wt_op132 wb17m7_prog_13_method_93_code_c5 18 rfl rfl rfl
theorem wp_md_movesAll_d164 : decode prog_13_method_93_code 164 = .ok (.goto (-34), 3) := wt_op167 wb17m7_prog_13_method_93_code_c5 21 rfl rfl rfl
theorem wp_md_movesAll_d167 : decode prog_13_method_93_code 167 = .ok (.iinc 3 1, 3) := wt_op132 wb17m7_prog_13_method_93_code_c5 24 rfl rfl rfl
theorem wp_md_movesAll_d170 : decode prog_13_method_93_code 170 = .ok (.goto (-84), 3) := wt_op167 wb17m7_prog_13_method_93_code_c5 27 rfl rfl rfl
theorem wp_md_movesAll_d173 : decode prog_13_method_93_code 173 = .ok (.iconst 0, 1) := wt_op3 wb17m7_prog_13_method_93_code_c6 0 rfl rfl
theorem wp_md_movesAll_d174 : decode prog_13_method_93_code 174 = .ok (.istore_n 3, 1) := wt_op62 wb17m7_prog_13_method_93_code_c6 1 rfl rfl
theorem wp_md_movesAll_d175 : decode prog_13_method_93_code 175 = .ok (.iload_n 3, 1) := wt_op29 wb17m7_prog_13_method_93_code_c6 2 rfl rfl
theorem wp_md_movesAll_d176 : decode prog_13_method_93_code 176 = .ok (.bipush 10, 2) := wt_op16 wb17m7_prog_13_method_93_code_c6 3 rfl rfl rfl
theorem wp_md_movesAll_d178 : decode prog_13_method_93_code 178 = .ok (.if_icmp .ge 48, 3) := wt_op162 wb17m7_prog_13_method_93_code_c6 5 rfl rfl rfl
theorem wp_md_movesAll_d181 : decode prog_13_method_93_code 181 = .ok (.iconst 0, 1) := wt_op3 wb17m7_prog_13_method_93_code_c6 8 rfl rfl
theorem wp_md_movesAll_d182 : decode prog_13_method_93_code 182 = .ok (.istore 4, 2) := wt_op54 wb17m7_prog_13_method_93_code_c6 9 rfl rfl
theorem wp_md_movesAll_d184 : decode prog_13_method_93_code 184 = .ok (.iload 4, 2) := wt_op21 wb17m7_prog_13_method_93_code_c6 11 rfl rfl
theorem wp_md_movesAll_d186 : decode prog_13_method_93_code 186 = .ok (.iconst 4, 1) := wt_op7 wb17m7_prog_13_method_93_code_c6 13 rfl rfl
theorem wp_md_movesAll_d187 : decode prog_13_method_93_code 187 = .ok (.if_icmp .ge 33, 3) := wt_op162 wb17m7_prog_13_method_93_code_c6 14 rfl rfl rfl
theorem wp_md_movesAll_d190 : decode prog_13_method_93_code 190 = .ok (.aload_n 0, 1) := wt_op42 wb17m7_prog_13_method_93_code_c6 17 rfl rfl
theorem wp_md_movesAll_d191 : decode prog_13_method_93_code 191 = .ok (.getfield 94, 3) := wt_op180 wb17m7_prog_13_method_93_code_c6 18 rfl rfl rfl
theorem wp_md_movesAll_d194 : decode prog_13_method_93_code 194 = .ok (.iload_n 3, 1) := wt_op29 wb17m7_prog_13_method_93_code_c6 21 rfl rfl
theorem wp_md_movesAll_d195 : decode prog_13_method_93_code 195 = .ok (.aaload, 1) := wt_op50 wb17m7_prog_13_method_93_code_c6 22 rfl rfl
theorem wp_md_movesAll_d196 : decode prog_13_method_93_code 196 = .ok (.iload 4, 2) := wt_op21 wb17m7_prog_13_method_93_code_c6 23 rfl rfl
theorem wp_md_movesAll_d198 : decode prog_13_method_93_code 198 = .ok (.aload_n 0, 1) := wt_op42 wb17m7_prog_13_method_93_code_c6 25 rfl rfl
theorem wp_md_movesAll_d199 : decode prog_13_method_93_code 199 = .ok (.aload_n 1, 1) := wt_op43 wb17m7_prog_13_method_93_code_c6 26 rfl rfl
theorem wp_md_movesAll_d200 : decode prog_13_method_93_code 200 = .ok (.aload_n 0, 1) := wt_op42 wb17m7_prog_13_method_93_code_c6 27 rfl rfl
theorem wp_md_movesAll_d201 : decode prog_13_method_93_code 201 = .ok (.getfield 94, 3) := wt_op180 wb17m7_prog_13_method_93_code_c7 0 rfl rfl rfl
theorem wp_md_movesAll_d204 : decode prog_13_method_93_code 204 = .ok (.iload_n 3, 1) := wt_op29 wb17m7_prog_13_method_93_code_c7 3 rfl rfl
theorem wp_md_movesAll_d205 : decode prog_13_method_93_code 205 = .ok (.aaload, 1) := wt_op50 wb17m7_prog_13_method_93_code_c7 4 rfl rfl
theorem wp_md_movesAll_d206 : decode prog_13_method_93_code 206 = .ok (.iload 4, 2) := wt_op21 wb17m7_prog_13_method_93_code_c7 5 rfl rfl
theorem wp_md_movesAll_d208 : decode prog_13_method_93_code 208 = .ok (.iaload, 1) := wt_op46 wb17m7_prog_13_method_93_code_c7 7 rfl rfl
theorem wp_md_movesAll_d209 : decode prog_13_method_93_code 209 = .ok (.iload_n 2, 1) := wt_op28 wb17m7_prog_13_method_93_code_c7 8 rfl rfl
theorem wp_md_movesAll_d210 : decode prog_13_method_93_code 210 = .ok (.invokevirtual 390, 3) := wt_op182 wb17m7_prog_13_method_93_code_c7 9 rfl rfl rfl
theorem wp_md_movesAll_d213 : decode prog_13_method_93_code 213 = .ok (.iastore, 1) := wt_op79 wb17m7_prog_13_method_93_code_c7 12 rfl rfl
theorem wp_md_movesAll_d214 : decode prog_13_method_93_code 214 = .ok (.iinc 4 1, 3) := wt_op132 wb17m7_prog_13_method_93_code_c7 13 rfl rfl rfl
theorem wp_md_movesAll_d217 : decode prog_13_method_93_code 217 = .ok (.goto (-33), 3) := wt_op167 wb17m7_prog_13_method_93_code_c7 16 rfl rfl rfl
theorem wp_md_movesAll_d220 : decode prog_13_method_93_code 220 = .ok (.iinc 3 1, 3) := wt_op132 wb17m7_prog_13_method_93_code_c7 19 rfl rfl rfl
theorem wp_md_movesAll_d223 : decode prog_13_method_93_code 223 = .ok (.goto (-48), 3) := wt_op167 wb17m7_prog_13_method_93_code_c7 22 rfl rfl rfl
theorem wp_md_movesAll_d226 : decode prog_13_method_93_code 226 = .ok (.return_, 1) := wt_op177 wb17m7_prog_13_method_93_code_c7 25 rfl rfl
noncomputable def wp_md_movesAll_B184 (n : Nat) (a1 : Nat) (x2 : Int32) (x3 : Int32) (K175 : Int32 × wt_St → Option (wt_St)) (K184 : Int32 × wt_St → Option (wt_St)) (s : Int32 × wt_St) : Option (wt_St) :=
  if (4 : Int32) ≤ s.1 then
    K175 ((x3 + (1 : Int32)), s.2)
  else
    if x3 < 0 ∨ 10 ≤ Int32.toNatClampNeg x3 then none else
    if x3 < 0 ∨ 10 ≤ Int32.toNatClampNeg x3 then none else
    if s.1 < 0 ∨ 4 ≤ Int32.toNatClampNeg s.1 then none else
    (wp_md_moves n a1 (wt_ga s.2 (264 + Int32.toNatClampNeg x3) (Int32.toNatClampNeg s.1)) x2 s.2).bind fun q10 =>
    if s.1 < 0 ∨ 4 ≤ Int32.toNatClampNeg s.1 then none else
    K184 ((s.1 + (1 : Int32)), (wt_sa q10.2 (264 + Int32.toNatClampNeg x3) (Int32.toNatClampNeg s.1) q10.1))
set_option maxRecDepth 100000 in
set_option maxHeartbeats 4000000 in
theorem wp_md_movesAll_B184_ok  {a1 : Nat} {x2 : Int32} {x3 : Int32} {X : wt_X} {n : Nat} {res : wt_St} (hE : wt_Ok X prog_13_method_93_code 5 "WornTypeModel" 1 0) (hR : wt_Rt X none none res) (hD : ∀ i, 108 ≤ i → i < 321 → wt_dom (wt_xw X) i) (hA_a1 : wt_LAY[a1]? = some (0, wt_ln a1, [])) (hd_a1 : wt_dom (wt_xw X) a1) {K175 : Int32 × wt_St → Option (wt_St)} (hK175 : ∀ s : Int32 × wt_St, K175 s = some res → wt_V X 0 s.2 175 [some (.ref (wt_ad (wt_xw X) 108)), some (.ref (wt_ad (wt_xw X) a1)), some (.int x2), some (.int s.1), none] []) {K184 : Int32 × wt_St → Option (wt_St)} (hK184 : ∀ s : Int32 × wt_St, K184 s = some res → wt_V X 0 s.2 184 [some (.ref (wt_ad (wt_xw X) 108)), some (.ref (wt_ad (wt_xw X) a1)), some (.int x2), some (.int x3), some (.int s.1)] []) {s : Int32 × wt_St} (h : wp_md_movesAll_B184 n a1 x2 x3 K175 K184 s = some res) : wt_V X 0 s.2 184 [some (.ref (wt_ad (wt_xw X) 108)), some (.ref (wt_ad (wt_xw X) a1)), some (.int x2), some (.int x3), some (.int s.1)] [] := by
  unfold wp_md_movesAll_B184 at h
  refine wt_iload hE wp_md_movesAll_d184 rfl ?_
  refine wt_iconst hE (4 : Int32) wp_md_movesAll_d186 wt_ci_4 ?_
  refine wt_icmp_ge hE 220 wp_md_movesAll_d187 rfl (fun c6 => ?_) (fun c6 => ?_)
  · have h := wt_ip c6 h
    refine wt_iinc hE (x3 + (1 : Int32)) [some (.ref (wt_ad (wt_xw X) 108)), some (.ref (wt_ad (wt_xw X) a1)), some (.int x2), some (.int (x3 + (1 : Int32))), some (.int s.1)] wp_md_movesAll_d220 (by decide) rfl rfl rfl ?_
    refine wt_goto hE 175 wp_md_movesAll_d223 rfl ?_
    refine wt_wk [true, true, true, true, false] rfl ?_
    exact hK175 ((x3 + (1 : Int32)), s.2) h
  · have h := wt_in c6 h
    refine wt_aload_n hE wp_md_movesAll_d190 rfl ?_
    refine wt_getr hE (r := 263) wt_lf_md_94 (hD 108 (by decide) (by decide)) wt_L108 rfl wp_md_movesAll_d191 ?_
    refine wt_iload_n hE wp_md_movesAll_d194 rfl ?_
    obtain ⟨g7, h⟩ := wt_gd h
    have lg7 := wt_lt g7
    refine wt_aald1 hE (hD 263 (by decide) (by decide)) wt_L263 g7 wp_md_movesAll_d195 ?_
    refine wt_iload hE wp_md_movesAll_d196 rfl ?_
    refine wt_aload_n hE wp_md_movesAll_d198 rfl ?_
    refine wt_aload_n hE wp_md_movesAll_d199 rfl ?_
    refine wt_aload_n hE wp_md_movesAll_d200 rfl ?_
    refine wt_getr hE (r := 263) wt_lf_md_94 (hD 108 (by decide) (by decide)) wt_L108 rfl wp_md_movesAll_d201 ?_
    refine wt_iload_n hE wp_md_movesAll_d204 rfl ?_
    obtain ⟨g8, h⟩ := wt_gd h
    have lg8 := wt_lt g8
    refine wt_aald1 hE (hD 263 (by decide) (by decide)) wt_L263 g8 wp_md_movesAll_d205 ?_
    refine wt_iload hE wp_md_movesAll_d206 rfl ?_
    obtain ⟨g9, h⟩ := wt_gd h
    refine wt_iald hE (hD _ (by omega) (by omega)) (wt_G264 _ lg8) g9 wp_md_movesAll_d208 ?_
    refine wt_iload_n hE wp_md_movesAll_d209 rfl ?_
    obtain ⟨q10, hq10, h⟩ := wt_bi h
    refine wt_callVi hE [.ref (wt_ad (wt_xw X) a1), .int (wt_ga s.2 (264 + Int32.toNatClampNeg x3) (Int32.toNatClampNeg s.1)), .int x2] wt_lm_md_390 wt_ya_md_moves (wp_md_moves_ok hD (wt_lnE hA_a1) hd_a1 hq10) (by omega) (hD 108 (by decide) (by decide)) wt_L108 rfl rfl rfl (Nat.le_of_ble_eq_true rfl) (Nat.zero_le _) wp_md_movesAll_d210 (fun hbq10 => ?_)
    obtain ⟨g11, h⟩ := wt_gd h
    refine wt_iast hE (hD _ (by omega) (by omega)) (wt_G264 _ lg7) g11 wp_md_movesAll_d213 ?_
    refine wt_iinc hE (s.1 + (1 : Int32)) [some (.ref (wt_ad (wt_xw X) 108)), some (.ref (wt_ad (wt_xw X) a1)), some (.int x2), some (.int x3), some (.int (s.1 + (1 : Int32)))] wp_md_movesAll_d214 (by decide) rfl rfl rfl ?_
    refine wt_goto hE 184 wp_md_movesAll_d217 rfl ?_
    exact hK184 ((s.1 + (1 : Int32)), (wt_sa q10.2 (264 + Int32.toNatClampNeg x3) (Int32.toNatClampNeg s.1) q10.1)) h
noncomputable def wp_md_movesAll_B175 (n : Nat) (a1 : Nat) (x2 : Int32) (K175 : Int32 × wt_St → Option (wt_St)) (s : Int32 × wt_St) : Option (wt_St) :=
  if (10 : Int32) ≤ s.1 then
    some s.2
  else
    wt_it (wp_md_movesAll_B184 n a1 x2 s.1 K175) n ((0 : Int32), s.2)
set_option maxRecDepth 100000 in
set_option maxHeartbeats 4000000 in
theorem wp_md_movesAll_B175_ok  {a1 : Nat} {x2 : Int32} {X : wt_X} {n : Nat} {res : wt_St} (hE : wt_Ok X prog_13_method_93_code 5 "WornTypeModel" 1 0) (hR : wt_Rt X none none res) (hD : ∀ i, 108 ≤ i → i < 321 → wt_dom (wt_xw X) i) (hA_a1 : wt_LAY[a1]? = some (0, wt_ln a1, [])) (hd_a1 : wt_dom (wt_xw X) a1) {K175 : Int32 × wt_St → Option (wt_St)} (hK175 : ∀ s : Int32 × wt_St, K175 s = some res → wt_V X 0 s.2 175 [some (.ref (wt_ad (wt_xw X) 108)), some (.ref (wt_ad (wt_xw X) a1)), some (.int x2), some (.int s.1), none] []) {s : Int32 × wt_St} (h : wp_md_movesAll_B175 n a1 x2 K175 s = some res) : wt_V X 0 s.2 175 [some (.ref (wt_ad (wt_xw X) 108)), some (.ref (wt_ad (wt_xw X) a1)), some (.int x2), some (.int s.1), none] [] := by
  unfold wp_md_movesAll_B175 at h
  refine wt_iload_n hE wp_md_movesAll_d175 rfl ?_
  refine wt_bipush hE (10 : Int32) wp_md_movesAll_d176 wt_cb_10 ?_
  refine wt_icmp_ge hE 226 wp_md_movesAll_d178 rfl (fun c5 => ?_) (fun c5 => ?_)
  · have h := wt_ip c5 h
    cases h
    exact wt_vret hE hR wp_md_movesAll_d226
  · have h := wt_in c5 h
    refine wt_iconst hE (0 : Int32) wp_md_movesAll_d181 wt_ci_0 ?_
    refine wt_istore hE [some (.ref (wt_ad (wt_xw X) 108)), some (.ref (wt_ad (wt_xw X) a1)), some (.int x2), some (.int s.1), some (.int (0 : Int32))] wp_md_movesAll_d182 (Nat.le_of_ble_eq_true rfl) rfl ?_
    exact wt_it_ind (fun z => wt_V X 0 z.2 184 [some (.ref (wt_ad (wt_xw X) 108)), some (.ref (wt_ad (wt_xw X) a1)), some (.int x2), some (.int s.1), some (.int z.1)] []) (fun K hK z h => wp_md_movesAll_B184_ok hE hR hD hA_a1 hd_a1 hK175 hK h) n ((0 : Int32), s.2) h
noncomputable def wp_md_movesAll_B130 (n : Nat) (a1 : Nat) (x2 : Int32) (x3 : Int32) (K86 : Int32 × wt_St → Option (wt_St)) (K130 : Int32 × wt_St → Option (wt_St)) (s : Int32 × wt_St) : Option (wt_St) :=
  if (108 : Int32) ≤ s.1 then
    K86 ((x3 + (1 : Int32)), s.2)
  else
    if x3 < 0 ∨ 4 ≤ Int32.toNatClampNeg x3 then none else
    if x3 < 0 ∨ 4 ≤ Int32.toNatClampNeg x3 then none else
    if s.1 < 0 ∨ 108 ≤ Int32.toNatClampNeg s.1 then none else
    (wp_md_moves n a1 (wt_ga s.2 (278 + Int32.toNatClampNeg x3) (Int32.toNatClampNeg s.1)) x2 s.2).bind fun q22 =>
    if s.1 < 0 ∨ 108 ≤ Int32.toNatClampNeg s.1 then none else
    K130 ((s.1 + (1 : Int32)), (wt_sa q22.2 (278 + Int32.toNatClampNeg x3) (Int32.toNatClampNeg s.1) q22.1))
set_option maxRecDepth 100000 in
set_option maxHeartbeats 4000000 in
theorem wp_md_movesAll_B130_ok  {a1 : Nat} {x2 : Int32} {x3 : Int32} {X : wt_X} {n : Nat} {res : wt_St} (hE : wt_Ok X prog_13_method_93_code 5 "WornTypeModel" 1 0) (hR : wt_Rt X none none res) (hD : ∀ i, 108 ≤ i → i < 321 → wt_dom (wt_xw X) i) (hA_a1 : wt_LAY[a1]? = some (0, wt_ln a1, [])) (hd_a1 : wt_dom (wt_xw X) a1) {K86 : Int32 × wt_St → Option (wt_St)} (hK86 : ∀ s : Int32 × wt_St, K86 s = some res → wt_V X 0 s.2 86 [some (.ref (wt_ad (wt_xw X) 108)), some (.ref (wt_ad (wt_xw X) a1)), some (.int x2), some (.int s.1), none] []) {K130 : Int32 × wt_St → Option (wt_St)} (hK130 : ∀ s : Int32 × wt_St, K130 s = some res → wt_V X 0 s.2 130 [some (.ref (wt_ad (wt_xw X) 108)), some (.ref (wt_ad (wt_xw X) a1)), some (.int x2), some (.int x3), some (.int s.1)] []) {s : Int32 × wt_St} (h : wp_md_movesAll_B130 n a1 x2 x3 K86 K130 s = some res) : wt_V X 0 s.2 130 [some (.ref (wt_ad (wt_xw X) 108)), some (.ref (wt_ad (wt_xw X) a1)), some (.int x2), some (.int x3), some (.int s.1)] [] := by
  unfold wp_md_movesAll_B130 at h
  refine wt_iload hE wp_md_movesAll_d130 rfl ?_
  refine wt_bipush hE (108 : Int32) wp_md_movesAll_d132 wt_cb_108 ?_
  refine wt_icmp_ge hE 167 wp_md_movesAll_d134 rfl (fun c18 => ?_) (fun c18 => ?_)
  · have h := wt_ip c18 h
    refine wt_iinc hE (x3 + (1 : Int32)) [some (.ref (wt_ad (wt_xw X) 108)), some (.ref (wt_ad (wt_xw X) a1)), some (.int x2), some (.int (x3 + (1 : Int32))), some (.int s.1)] wp_md_movesAll_d167 (by decide) rfl rfl rfl ?_
    refine wt_goto hE 86 wp_md_movesAll_d170 rfl ?_
    refine wt_wk [true, true, true, true, false] rfl ?_
    exact hK86 ((x3 + (1 : Int32)), s.2) h
  · have h := wt_in c18 h
    refine wt_aload_n hE wp_md_movesAll_d137 rfl ?_
    refine wt_getr hE (r := 277) wt_lf_md_106 (hD 108 (by decide) (by decide)) wt_L108 rfl wp_md_movesAll_d138 ?_
    refine wt_iload_n hE wp_md_movesAll_d141 rfl ?_
    obtain ⟨g19, h⟩ := wt_gd h
    have lg19 := wt_lt g19
    refine wt_aald1 hE (hD 277 (by decide) (by decide)) wt_L277 g19 wp_md_movesAll_d142 ?_
    refine wt_iload hE wp_md_movesAll_d143 rfl ?_
    refine wt_aload_n hE wp_md_movesAll_d145 rfl ?_
    refine wt_aload_n hE wp_md_movesAll_d146 rfl ?_
    refine wt_aload_n hE wp_md_movesAll_d147 rfl ?_
    refine wt_getr hE (r := 277) wt_lf_md_106 (hD 108 (by decide) (by decide)) wt_L108 rfl wp_md_movesAll_d148 ?_
    refine wt_iload_n hE wp_md_movesAll_d151 rfl ?_
    obtain ⟨g20, h⟩ := wt_gd h
    have lg20 := wt_lt g20
    refine wt_aald1 hE (hD 277 (by decide) (by decide)) wt_L277 g20 wp_md_movesAll_d152 ?_
    refine wt_iload hE wp_md_movesAll_d153 rfl ?_
    obtain ⟨g21, h⟩ := wt_gd h
    refine wt_iald hE (hD _ (by omega) (by omega)) (wt_G278 _ lg20) g21 wp_md_movesAll_d155 ?_
    refine wt_iload_n hE wp_md_movesAll_d156 rfl ?_
    obtain ⟨q22, hq22, h⟩ := wt_bi h
    refine wt_callVi hE [.ref (wt_ad (wt_xw X) a1), .int (wt_ga s.2 (278 + Int32.toNatClampNeg x3) (Int32.toNatClampNeg s.1)), .int x2] wt_lm_md_390 wt_ya_md_moves (wp_md_moves_ok hD (wt_lnE hA_a1) hd_a1 hq22) (by omega) (hD 108 (by decide) (by decide)) wt_L108 rfl rfl rfl (Nat.le_of_ble_eq_true rfl) (Nat.zero_le _) wp_md_movesAll_d157 (fun hbq22 => ?_)
    obtain ⟨g23, h⟩ := wt_gd h
    refine wt_iast hE (hD _ (by omega) (by omega)) (wt_G278 _ lg19) g23 wp_md_movesAll_d160 ?_
    refine wt_iinc hE (s.1 + (1 : Int32)) [some (.ref (wt_ad (wt_xw X) 108)), some (.ref (wt_ad (wt_xw X) a1)), some (.int x2), some (.int x3), some (.int (s.1 + (1 : Int32)))] wp_md_movesAll_d161 (by decide) rfl rfl rfl ?_
    refine wt_goto hE 130 wp_md_movesAll_d164 rfl ?_
    exact hK130 ((s.1 + (1 : Int32)), (wt_sa q22.2 (278 + Int32.toNatClampNeg x3) (Int32.toNatClampNeg s.1) q22.1)) h
noncomputable def wp_md_movesAll_B86 (n : Nat) (a1 : Nat) (x2 : Int32) (K86 : Int32 × wt_St → Option (wt_St)) (s : Int32 × wt_St) : Option (wt_St) :=
  if (4 : Int32) ≤ s.1 then
    wt_it (wp_md_movesAll_B175 n a1 x2) n ((0 : Int32), s.2)
  else
    if s.1 < 0 ∨ 4 ≤ Int32.toNatClampNeg s.1 then none else
    (wp_md_moves n a1 (wt_ga s.2 275 (Int32.toNatClampNeg s.1)) x2 s.2).bind fun q13 =>
    if s.1 < 0 ∨ 4 ≤ Int32.toNatClampNeg s.1 then none else
    if s.1 < 0 ∨ 4 ≤ Int32.toNatClampNeg s.1 then none else
    (wp_md_moves n a1 (wt_ga (wt_sa q13.2 275 (Int32.toNatClampNeg s.1) q13.1) 276 (Int32.toNatClampNeg s.1)) x2 (wt_sa q13.2 275 (Int32.toNatClampNeg s.1) q13.1)).bind fun q16 =>
    if s.1 < 0 ∨ 4 ≤ Int32.toNatClampNeg s.1 then none else
    wt_it (wp_md_movesAll_B130 n a1 x2 s.1 K86) n ((0 : Int32), (wt_sa q16.2 276 (Int32.toNatClampNeg s.1) q16.1))
set_option maxRecDepth 100000 in
set_option maxHeartbeats 4000000 in
theorem wp_md_movesAll_B86_ok  {a1 : Nat} {x2 : Int32} {X : wt_X} {n : Nat} {res : wt_St} (hE : wt_Ok X prog_13_method_93_code 5 "WornTypeModel" 1 0) (hR : wt_Rt X none none res) (hD : ∀ i, 108 ≤ i → i < 321 → wt_dom (wt_xw X) i) (hA_a1 : wt_LAY[a1]? = some (0, wt_ln a1, [])) (hd_a1 : wt_dom (wt_xw X) a1) {K86 : Int32 × wt_St → Option (wt_St)} (hK86 : ∀ s : Int32 × wt_St, K86 s = some res → wt_V X 0 s.2 86 [some (.ref (wt_ad (wt_xw X) 108)), some (.ref (wt_ad (wt_xw X) a1)), some (.int x2), some (.int s.1), none] []) {s : Int32 × wt_St} (h : wp_md_movesAll_B86 n a1 x2 K86 s = some res) : wt_V X 0 s.2 86 [some (.ref (wt_ad (wt_xw X) 108)), some (.ref (wt_ad (wt_xw X) a1)), some (.int x2), some (.int s.1), none] [] := by
  unfold wp_md_movesAll_B86 at h
  refine wt_iload_n hE wp_md_movesAll_d86 rfl ?_
  refine wt_iconst hE (4 : Int32) wp_md_movesAll_d87 wt_ci_4 ?_
  refine wt_icmp_ge hE 173 wp_md_movesAll_d88 rfl (fun c4 => ?_) (fun c4 => ?_)
  · have h := wt_ip c4 h
    refine wt_iconst hE (0 : Int32) wp_md_movesAll_d173 wt_ci_0 ?_
    refine wt_istore_n hE [some (.ref (wt_ad (wt_xw X) 108)), some (.ref (wt_ad (wt_xw X) a1)), some (.int x2), some (.int (0 : Int32)), none] wp_md_movesAll_d174 (by decide) rfl ?_
    exact wt_it_ind (fun z => wt_V X 0 z.2 175 [some (.ref (wt_ad (wt_xw X) 108)), some (.ref (wt_ad (wt_xw X) a1)), some (.int x2), some (.int z.1), none] []) (fun K hK z h => wp_md_movesAll_B175_ok hE hR hD hA_a1 hd_a1 hK h) n ((0 : Int32), s.2) h
  · have h := wt_in c4 h
    refine wt_aload_n hE wp_md_movesAll_d91 rfl ?_
    refine wt_getr hE (r := 275) wt_lf_md_100 (hD 108 (by decide) (by decide)) wt_L108 rfl wp_md_movesAll_d92 ?_
    refine wt_iload_n hE wp_md_movesAll_d95 rfl ?_
    refine wt_aload_n hE wp_md_movesAll_d96 rfl ?_
    refine wt_aload_n hE wp_md_movesAll_d97 rfl ?_
    refine wt_aload_n hE wp_md_movesAll_d98 rfl ?_
    refine wt_getr hE (r := 275) wt_lf_md_100 (hD 108 (by decide) (by decide)) wt_L108 rfl wp_md_movesAll_d99 ?_
    refine wt_iload_n hE wp_md_movesAll_d102 rfl ?_
    obtain ⟨g12, h⟩ := wt_gd h
    refine wt_iald hE (hD 275 (by decide) (by decide)) wt_L275 g12 wp_md_movesAll_d103 ?_
    refine wt_iload_n hE wp_md_movesAll_d104 rfl ?_
    obtain ⟨q13, hq13, h⟩ := wt_bi h
    refine wt_callVi hE [.ref (wt_ad (wt_xw X) a1), .int (wt_ga s.2 275 (Int32.toNatClampNeg s.1)), .int x2] wt_lm_md_390 wt_ya_md_moves (wp_md_moves_ok hD (wt_lnE hA_a1) hd_a1 hq13) (by omega) (hD 108 (by decide) (by decide)) wt_L108 rfl rfl rfl (Nat.le_of_ble_eq_true rfl) (Nat.zero_le _) wp_md_movesAll_d105 (fun hbq13 => ?_)
    obtain ⟨g14, h⟩ := wt_gd h
    refine wt_iast hE (hD 275 (by decide) (by decide)) wt_L275 g14 wp_md_movesAll_d108 ?_
    refine wt_aload_n hE wp_md_movesAll_d109 rfl ?_
    refine wt_getr hE (r := 276) wt_lf_md_103 (hD 108 (by decide) (by decide)) wt_L108 rfl wp_md_movesAll_d110 ?_
    refine wt_iload_n hE wp_md_movesAll_d113 rfl ?_
    refine wt_aload_n hE wp_md_movesAll_d114 rfl ?_
    refine wt_aload_n hE wp_md_movesAll_d115 rfl ?_
    refine wt_aload_n hE wp_md_movesAll_d116 rfl ?_
    refine wt_getr hE (r := 276) wt_lf_md_103 (hD 108 (by decide) (by decide)) wt_L108 rfl wp_md_movesAll_d117 ?_
    refine wt_iload_n hE wp_md_movesAll_d120 rfl ?_
    obtain ⟨g15, h⟩ := wt_gd h
    refine wt_iald hE (hD 276 (by decide) (by decide)) wt_L276 g15 wp_md_movesAll_d121 ?_
    refine wt_iload_n hE wp_md_movesAll_d122 rfl ?_
    obtain ⟨q16, hq16, h⟩ := wt_bi h
    refine wt_callVi hE [.ref (wt_ad (wt_xw X) a1), .int (wt_ga (wt_sa q13.2 275 (Int32.toNatClampNeg s.1) q13.1) 276 (Int32.toNatClampNeg s.1)), .int x2] wt_lm_md_390 wt_ya_md_moves (wp_md_moves_ok hD (wt_lnE hA_a1) hd_a1 hq16) (by omega) (hD 108 (by decide) (by decide)) wt_L108 rfl rfl rfl (Nat.le_of_ble_eq_true rfl) (Nat.zero_le _) wp_md_movesAll_d123 (fun hbq16 => ?_)
    obtain ⟨g17, h⟩ := wt_gd h
    refine wt_iast hE (hD 276 (by decide) (by decide)) wt_L276 g17 wp_md_movesAll_d126 ?_
    refine wt_iconst hE (0 : Int32) wp_md_movesAll_d127 wt_ci_0 ?_
    refine wt_istore hE [some (.ref (wt_ad (wt_xw X) 108)), some (.ref (wt_ad (wt_xw X) a1)), some (.int x2), some (.int s.1), some (.int (0 : Int32))] wp_md_movesAll_d128 (Nat.le_of_ble_eq_true rfl) rfl ?_
    exact wt_it_ind (fun z => wt_V X 0 z.2 130 [some (.ref (wt_ad (wt_xw X) 108)), some (.ref (wt_ad (wt_xw X) a1)), some (.int x2), some (.int s.1), some (.int z.1)] []) (fun K hK z h => wp_md_movesAll_B130_ok hE hR hD hA_a1 hd_a1 hK86 hK h) n ((0 : Int32), (wt_sa q16.2 276 (Int32.toNatClampNeg s.1) q16.1)) h
noncomputable def wp_md_movesAll_B35 (n : Nat) (a1 : Nat) (x2 : Int32) (K35 : Int32 × wt_St → Option (wt_St)) (s : Int32 × wt_St) : Option (wt_St) :=
  if (338 : Int32) ≤ s.1 then
    wt_it (wp_md_movesAll_B86 n a1 x2) n ((0 : Int32), s.2)
  else
    if s.1 < 0 ∨ 338 ≤ Int32.toNatClampNeg s.1 then none else
    (wp_md_moves n a1 (wt_ga s.2 121 (Int32.toNatClampNeg s.1)) x2 s.2).bind fun q25 =>
    if s.1 < 0 ∨ 338 ≤ Int32.toNatClampNeg s.1 then none else
    if s.1 < 0 ∨ 338 ≤ Int32.toNatClampNeg s.1 then none else
    (wp_md_moves n a1 (wt_ga (wt_sa q25.2 121 (Int32.toNatClampNeg s.1) q25.1) 124 (Int32.toNatClampNeg s.1)) x2 (wt_sa q25.2 121 (Int32.toNatClampNeg s.1) q25.1)).bind fun q28 =>
    if s.1 < 0 ∨ 338 ≤ Int32.toNatClampNeg s.1 then none else
    K35 ((s.1 + (1 : Int32)), (wt_sa q28.2 124 (Int32.toNatClampNeg s.1) q28.1))
set_option maxRecDepth 100000 in
set_option maxHeartbeats 4000000 in
theorem wp_md_movesAll_B35_ok  {a1 : Nat} {x2 : Int32} {X : wt_X} {n : Nat} {res : wt_St} (hE : wt_Ok X prog_13_method_93_code 5 "WornTypeModel" 1 0) (hR : wt_Rt X none none res) (hD : ∀ i, 108 ≤ i → i < 321 → wt_dom (wt_xw X) i) (hA_a1 : wt_LAY[a1]? = some (0, wt_ln a1, [])) (hd_a1 : wt_dom (wt_xw X) a1) {K35 : Int32 × wt_St → Option (wt_St)} (hK35 : ∀ s : Int32 × wt_St, K35 s = some res → wt_V X 0 s.2 35 [some (.ref (wt_ad (wt_xw X) 108)), some (.ref (wt_ad (wt_xw X) a1)), some (.int x2), some (.int s.1), none] []) {s : Int32 × wt_St} (h : wp_md_movesAll_B35 n a1 x2 K35 s = some res) : wt_V X 0 s.2 35 [some (.ref (wt_ad (wt_xw X) 108)), some (.ref (wt_ad (wt_xw X) a1)), some (.int x2), some (.int s.1), none] [] := by
  unfold wp_md_movesAll_B35 at h
  refine wt_iload_n hE wp_md_movesAll_d35 rfl ?_
  refine wt_sipush hE (338 : Int32) wp_md_movesAll_d36 wt_cs_338 ?_
  refine wt_icmp_ge hE 84 wp_md_movesAll_d39 rfl (fun c3 => ?_) (fun c3 => ?_)
  · have h := wt_ip c3 h
    refine wt_iconst hE (0 : Int32) wp_md_movesAll_d84 wt_ci_0 ?_
    refine wt_istore_n hE [some (.ref (wt_ad (wt_xw X) 108)), some (.ref (wt_ad (wt_xw X) a1)), some (.int x2), some (.int (0 : Int32)), none] wp_md_movesAll_d85 (by decide) rfl ?_
    exact wt_it_ind (fun z => wt_V X 0 z.2 86 [some (.ref (wt_ad (wt_xw X) 108)), some (.ref (wt_ad (wt_xw X) a1)), some (.int x2), some (.int z.1), none] []) (fun K hK z h => wp_md_movesAll_B86_ok hE hR hD hA_a1 hd_a1 hK h) n ((0 : Int32), s.2) h
  · have h := wt_in c3 h
    refine wt_aload_n hE wp_md_movesAll_d42 rfl ?_
    refine wt_getr hE (r := 121) wt_lf_md_50 (hD 108 (by decide) (by decide)) wt_L108 rfl wp_md_movesAll_d43 ?_
    refine wt_iload_n hE wp_md_movesAll_d46 rfl ?_
    refine wt_aload_n hE wp_md_movesAll_d47 rfl ?_
    refine wt_aload_n hE wp_md_movesAll_d48 rfl ?_
    refine wt_aload_n hE wp_md_movesAll_d49 rfl ?_
    refine wt_getr hE (r := 121) wt_lf_md_50 (hD 108 (by decide) (by decide)) wt_L108 rfl wp_md_movesAll_d50 ?_
    refine wt_iload_n hE wp_md_movesAll_d53 rfl ?_
    obtain ⟨g24, h⟩ := wt_gd h
    refine wt_iald hE (hD 121 (by decide) (by decide)) wt_L121 g24 wp_md_movesAll_d54 ?_
    refine wt_iload_n hE wp_md_movesAll_d55 rfl ?_
    obtain ⟨q25, hq25, h⟩ := wt_bi h
    refine wt_callVi hE [.ref (wt_ad (wt_xw X) a1), .int (wt_ga s.2 121 (Int32.toNatClampNeg s.1)), .int x2] wt_lm_md_390 wt_ya_md_moves (wp_md_moves_ok hD (wt_lnE hA_a1) hd_a1 hq25) (by omega) (hD 108 (by decide) (by decide)) wt_L108 rfl rfl rfl (Nat.le_of_ble_eq_true rfl) (Nat.zero_le _) wp_md_movesAll_d56 (fun hbq25 => ?_)
    obtain ⟨g26, h⟩ := wt_gd h
    refine wt_iast hE (hD 121 (by decide) (by decide)) wt_L121 g26 wp_md_movesAll_d59 ?_
    refine wt_aload_n hE wp_md_movesAll_d60 rfl ?_
    refine wt_getr hE (r := 124) wt_lf_md_59 (hD 108 (by decide) (by decide)) wt_L108 rfl wp_md_movesAll_d61 ?_
    refine wt_iload_n hE wp_md_movesAll_d64 rfl ?_
    refine wt_aload_n hE wp_md_movesAll_d65 rfl ?_
    refine wt_aload_n hE wp_md_movesAll_d66 rfl ?_
    refine wt_aload_n hE wp_md_movesAll_d67 rfl ?_
    refine wt_getr hE (r := 124) wt_lf_md_59 (hD 108 (by decide) (by decide)) wt_L108 rfl wp_md_movesAll_d68 ?_
    refine wt_iload_n hE wp_md_movesAll_d71 rfl ?_
    obtain ⟨g27, h⟩ := wt_gd h
    refine wt_iald hE (hD 124 (by decide) (by decide)) wt_L124 g27 wp_md_movesAll_d72 ?_
    refine wt_iload_n hE wp_md_movesAll_d73 rfl ?_
    obtain ⟨q28, hq28, h⟩ := wt_bi h
    refine wt_callVi hE [.ref (wt_ad (wt_xw X) a1), .int (wt_ga (wt_sa q25.2 121 (Int32.toNatClampNeg s.1) q25.1) 124 (Int32.toNatClampNeg s.1)), .int x2] wt_lm_md_390 wt_ya_md_moves (wp_md_moves_ok hD (wt_lnE hA_a1) hd_a1 hq28) (by omega) (hD 108 (by decide) (by decide)) wt_L108 rfl rfl rfl (Nat.le_of_ble_eq_true rfl) (Nat.zero_le _) wp_md_movesAll_d74 (fun hbq28 => ?_)
    obtain ⟨g29, h⟩ := wt_gd h
    refine wt_iast hE (hD 124 (by decide) (by decide)) wt_L124 g29 wp_md_movesAll_d77 ?_
    refine wt_iinc hE (s.1 + (1 : Int32)) [some (.ref (wt_ad (wt_xw X) 108)), some (.ref (wt_ad (wt_xw X) a1)), some (.int x2), some (.int (s.1 + (1 : Int32))), none] wp_md_movesAll_d78 (by decide) rfl rfl rfl ?_
    refine wt_goto hE 35 wp_md_movesAll_d81 rfl ?_
    exact hK35 ((s.1 + (1 : Int32)), (wt_sa q28.2 124 (Int32.toNatClampNeg s.1) q28.1)) h
noncomputable def wp_md_movesAll (n : Nat) (a1 : Nat) (x2 : Int32) (σ : wt_St) : Option (wt_St) :=
  (wp_md_moves n a1 (wt_gf (wt_sf σ 108 42 (0 : Int32)) 108 26) x2 (wt_sf σ 108 42 (0 : Int32))).bind fun q1 =>
  (wp_md_moves n a1 (wt_gf (wt_sf q1.2 108 26 q1.1) 108 40) x2 (wt_sf q1.2 108 26 q1.1)).bind fun q2 =>
  wt_it (wp_md_movesAll_B35 n a1 x2) n ((0 : Int32), (wt_sf q2.2 108 40 q2.1))
set_option maxRecDepth 100000 in
set_option maxHeartbeats 4000000 in
theorem wp_md_movesAll_ok {l : Launch} {w : wt_E} {n : Nat} {a1 : Nat} {x2 : Int32} (hD : ∀ i, 108 ≤ i → i < 321 → wt_dom w i) (hA_a1 : wt_LAY[a1]? = some (0, wt_ln a1, [])) (hd_a1 : wt_dom w a1) {σ : wt_St} {q : wt_St} (h : wp_md_movesAll n a1 x2 σ = some q) : wt_Ctr l w wt_y_md_movesAll prog_13_method_93_code 5 none 1 [.ref (wt_ad w 108), .ref (wt_ad w a1), .int x2] σ none q := by
  refine wt_ctr wt_pl_md_movesAll rfl (Nat.le_of_ble_eq_true rfl) [some (.ref (wt_ad w 108)), some (.ref (wt_ad w a1)), some (.int x2), none, none] rfl ?_
  intro X hXl hXw hE hR
  subst hXl
  subst hXw
  have hE : wt_Ok X prog_13_method_93_code 5 "WornTypeModel" 1 0 := hE
  unfold wp_md_movesAll at h
  refine wt_aload_n hE wp_md_movesAll_d0 rfl ?_
  refine wt_iconst hE (0 : Int32) wp_md_movesAll_d1 wt_ci_0 ?_
  refine wt_puti hE wt_lf_md_387 (hD 108 (by decide) (by decide)) wt_L108 rfl (fun q hq => by cases hq; rfl) wp_md_movesAll_d2 ?_
  refine wt_aload_n hE wp_md_movesAll_d5 rfl ?_
  refine wt_aload_n hE wp_md_movesAll_d6 rfl ?_
  refine wt_aload_n hE wp_md_movesAll_d7 rfl ?_
  refine wt_aload_n hE wp_md_movesAll_d8 rfl ?_
  refine wt_geti hE wt_lf_md_277 (hD 108 (by decide) (by decide)) wt_L108 rfl wp_md_movesAll_d9 ?_
  refine wt_iload_n hE wp_md_movesAll_d12 rfl ?_
  obtain ⟨q1, hq1, h⟩ := wt_bi h
  refine wt_callVi hE [.ref (wt_ad (wt_xw X) a1), .int (wt_gf (wt_sf σ 108 42 (0 : Int32)) 108 26), .int x2] wt_lm_md_390 wt_ya_md_moves (wp_md_moves_ok hD (wt_lnE hA_a1) hd_a1 hq1) (by omega) (hD 108 (by decide) (by decide)) wt_L108 rfl rfl rfl (Nat.le_of_ble_eq_true rfl) (Nat.zero_le _) wp_md_movesAll_d13 (fun hbq1 => ?_)
  refine wt_puti hE wt_lf_md_277 (hD 108 (by decide) (by decide)) wt_L108 rfl (fun q hq => by cases hq; rfl) wp_md_movesAll_d16 ?_
  refine wt_aload_n hE wp_md_movesAll_d19 rfl ?_
  refine wt_aload_n hE wp_md_movesAll_d20 rfl ?_
  refine wt_aload_n hE wp_md_movesAll_d21 rfl ?_
  refine wt_aload_n hE wp_md_movesAll_d22 rfl ?_
  refine wt_geti hE wt_lf_md_268 (hD 108 (by decide) (by decide)) wt_L108 rfl wp_md_movesAll_d23 ?_
  refine wt_iload_n hE wp_md_movesAll_d26 rfl ?_
  obtain ⟨q2, hq2, h⟩ := wt_bi h
  refine wt_callVi hE [.ref (wt_ad (wt_xw X) a1), .int (wt_gf (wt_sf q1.2 108 26 q1.1) 108 40), .int x2] wt_lm_md_390 wt_ya_md_moves (wp_md_moves_ok hD (wt_lnE hA_a1) hd_a1 hq2) (by omega) (hD 108 (by decide) (by decide)) wt_L108 rfl rfl rfl (Nat.le_of_ble_eq_true rfl) (Nat.zero_le _) wp_md_movesAll_d27 (fun hbq2 => ?_)
  refine wt_puti hE wt_lf_md_268 (hD 108 (by decide) (by decide)) wt_L108 rfl (fun q hq => by cases hq; rfl) wp_md_movesAll_d30 ?_
  refine wt_iconst hE (0 : Int32) wp_md_movesAll_d33 wt_ci_0 ?_
  refine wt_istore_n hE [some (.ref (wt_ad (wt_xw X) 108)), some (.ref (wt_ad (wt_xw X) a1)), some (.int x2), some (.int (0 : Int32)), none] wp_md_movesAll_d34 (by decide) rfl ?_
  exact wt_it_ind (fun z => wt_V X 0 z.2 35 [some (.ref (wt_ad (wt_xw X) 108)), some (.ref (wt_ad (wt_xw X) a1)), some (.int x2), some (.int z.1), none] []) (fun K hK z h => wp_md_movesAll_B35_ok hE hR hD hA_a1 hd_a1 hK h) n ((0 : Int32), (wt_sf q2.2 108 40 q2.1)) h
def wb17m7_prog_13_method_94_code_r1 : List (List Nat) := [42, 89, 180, 0, 240, 4, 96, 181, 0, 240, 42, 180, 0, 240, 172] :: []
def wb17m7_prog_13_method_94_code_r0 : List (List Nat) := [42, 3, 181, 0, 151, 42, 180, 0, 240, 6, 160, 0, 5, 2, 172, 42, 42, 180, 0, 109, 42, 180, 0, 240, 50, 3, 182, 1, 138] :: wb17m7_prog_13_method_94_code_r1
set_option maxRecDepth 100000 in
theorem wb17m7_prog_13_method_94_code_c0 : wt_cs prog_13_method_94_code 0 wb17m7_prog_13_method_94_code_r0 := wt_cs_of (by decide +kernel)
theorem wb17m7_prog_13_method_94_code_c1 : wt_cs prog_13_method_94_code 29 wb17m7_prog_13_method_94_code_r1 := wt_cs_tl (m := 29) wb17m7_prog_13_method_94_code_c0 rfl rfl
theorem wp_md_image_d0 : decode prog_13_method_94_code 0 = .ok (.aload_n 0, 1) := wt_op42 wb17m7_prog_13_method_94_code_c0 0 rfl rfl
theorem wp_md_image_d1 : decode prog_13_method_94_code 1 = .ok (.iconst 0, 1) := wt_op3 wb17m7_prog_13_method_94_code_c0 1 rfl rfl
theorem wp_md_image_d2 : decode prog_13_method_94_code 2 = .ok (.putfield 151, 3) := wt_op181 wb17m7_prog_13_method_94_code_c0 2 rfl rfl rfl
theorem wp_md_image_d5 : decode prog_13_method_94_code 5 = .ok (.aload_n 0, 1) := wt_op42 wb17m7_prog_13_method_94_code_c0 5 rfl rfl
theorem wp_md_image_d6 : decode prog_13_method_94_code 6 = .ok (.getfield 240, 3) := wt_op180 wb17m7_prog_13_method_94_code_c0 6 rfl rfl rfl
theorem wp_md_image_d9 : decode prog_13_method_94_code 9 = .ok (.iconst 3, 1) := wt_op6 wb17m7_prog_13_method_94_code_c0 9 rfl rfl
theorem wp_md_image_d10 : decode prog_13_method_94_code 10 = .ok (.if_icmp .ne 5, 3) := wt_op160 wb17m7_prog_13_method_94_code_c0 10 rfl rfl rfl
theorem wp_md_image_d13 : decode prog_13_method_94_code 13 = .ok (.iconst (-1), 1) := wt_op2 wb17m7_prog_13_method_94_code_c0 13 rfl rfl
theorem wp_md_image_d14 : decode prog_13_method_94_code 14 = .ok (.ireturn, 1) := wt_op172 wb17m7_prog_13_method_94_code_c0 14 rfl rfl
theorem wp_md_image_d15 : decode prog_13_method_94_code 15 = .ok (.aload_n 0, 1) := wt_op42 wb17m7_prog_13_method_94_code_c0 15 rfl rfl
theorem wp_md_image_d16 : decode prog_13_method_94_code 16 = .ok (.aload_n 0, 1) := wt_op42 wb17m7_prog_13_method_94_code_c0 16 rfl rfl
theorem wp_md_image_d17 : decode prog_13_method_94_code 17 = .ok (.getfield 109, 3) := wt_op180 wb17m7_prog_13_method_94_code_c0 17 rfl rfl rfl
theorem wp_md_image_d20 : decode prog_13_method_94_code 20 = .ok (.aload_n 0, 1) := wt_op42 wb17m7_prog_13_method_94_code_c0 20 rfl rfl
theorem wp_md_image_d21 : decode prog_13_method_94_code 21 = .ok (.getfield 240, 3) := wt_op180 wb17m7_prog_13_method_94_code_c0 21 rfl rfl rfl
theorem wp_md_image_d24 : decode prog_13_method_94_code 24 = .ok (.aaload, 1) := wt_op50 wb17m7_prog_13_method_94_code_c0 24 rfl rfl
theorem wp_md_image_d25 : decode prog_13_method_94_code 25 = .ok (.iconst 0, 1) := wt_op3 wb17m7_prog_13_method_94_code_c0 25 rfl rfl
theorem wp_md_image_d26 : decode prog_13_method_94_code 26 = .ok (.invokevirtual 394, 3) := wt_op182 wb17m7_prog_13_method_94_code_c0 26 rfl rfl rfl
theorem wp_md_image_d29 : decode prog_13_method_94_code 29 = .ok (.aload_n 0, 1) := wt_op42 wb17m7_prog_13_method_94_code_c1 0 rfl rfl
theorem wp_md_image_d30 : decode prog_13_method_94_code 30 = .ok (.dup, 1) := wt_op89 wb17m7_prog_13_method_94_code_c1 1 rfl rfl
theorem wp_md_image_d31 : decode prog_13_method_94_code 31 = .ok (.getfield 240, 3) := wt_op180 wb17m7_prog_13_method_94_code_c1 2 rfl rfl rfl
theorem wp_md_image_d34 : decode prog_13_method_94_code 34 = .ok (.iconst 1, 1) := wt_op4 wb17m7_prog_13_method_94_code_c1 5 rfl rfl
theorem wp_md_image_d35 : decode prog_13_method_94_code 35 = .ok (.iadd, 1) := wt_op96 wb17m7_prog_13_method_94_code_c1 6 rfl rfl
theorem wp_md_image_d36 : decode prog_13_method_94_code 36 = .ok (.putfield 240, 3) := wt_op181 wb17m7_prog_13_method_94_code_c1 7 rfl rfl rfl
theorem wp_md_image_d39 : decode prog_13_method_94_code 39 = .ok (.aload_n 0, 1) := wt_op42 wb17m7_prog_13_method_94_code_c1 10 rfl rfl
theorem wp_md_image_d40 : decode prog_13_method_94_code 40 = .ok (.getfield 240, 3) := wt_op180 wb17m7_prog_13_method_94_code_c1 11 rfl rfl rfl
theorem wp_md_image_d43 : decode prog_13_method_94_code 43 = .ok (.ireturn, 1) := wt_op172 wb17m7_prog_13_method_94_code_c1 14 rfl rfl
noncomputable def wp_md_image (n : Nat) (σ : wt_St) : Option (Int32 × wt_St) :=
  if (wt_gf (wt_sf σ 108 0 (0 : Int32)) 108 41) = (3 : Int32) then
    some ((-1 : Int32), (wt_sf σ 108 0 (0 : Int32)))
  else
    if (wt_gf (wt_sf σ 108 0 (0 : Int32)) 108 41) < 0 ∨ 3 ≤ Int32.toNatClampNeg (wt_gf (wt_sf σ 108 0 (0 : Int32)) 108 41) then none else
    (wp_md_movesAll n (283 + Int32.toNatClampNeg (wt_gf (wt_sf σ 108 0 (0 : Int32)) 108 41)) (0 : Int32) (wt_sf σ 108 0 (0 : Int32))).bind fun q3 =>
    some ((wt_gf (wt_sf q3 108 41 ((wt_gf q3 108 41) + (1 : Int32))) 108 41), (wt_sf q3 108 41 ((wt_gf q3 108 41) + (1 : Int32))))
set_option maxRecDepth 100000 in
set_option maxHeartbeats 4000000 in
theorem wp_md_image_ok {l : Launch} {w : wt_E} {n : Nat} (hD : ∀ i, 108 ≤ i → i < 321 → wt_dom w i) {σ : wt_St} {q : Int32 × wt_St} (h : wp_md_image n σ = some q) : wt_Ctr l w wt_y_md_image prog_13_method_94_code 1 (some .int) 2 [.ref (wt_ad w 108)] σ (some q.1) q.2 := by
  refine wt_ctr wt_pl_md_image rfl (Nat.le_of_ble_eq_true rfl) [some (.ref (wt_ad w 108))] rfl ?_
  intro X hXl hXw hE hR
  subst hXl
  subst hXw
  have hE : wt_Ok X prog_13_method_94_code 1 "WornTypeModel" 2 0 := hE
  unfold wp_md_image at h
  refine wt_aload_n hE wp_md_image_d0 rfl ?_
  refine wt_iconst hE (0 : Int32) wp_md_image_d1 wt_ci_0 ?_
  refine wt_puti hE wt_lf_md_151 (hD 108 (by decide) (by decide)) wt_L108 rfl (fun q hq => by cases hq; rfl) wp_md_image_d2 ?_
  refine wt_aload_n hE wp_md_image_d5 rfl ?_
  refine wt_geti hE wt_lf_md_240 (hD 108 (by decide) (by decide)) wt_L108 rfl wp_md_image_d6 ?_
  refine wt_iconst hE (3 : Int32) wp_md_image_d9 wt_ci_3 ?_
  refine wt_icmp_ne hE 15 wp_md_image_d10 rfl (fun c1 => ?_) (fun c1 => ?_)
  · have h := wt_in c1 h
    refine wt_aload_n hE wp_md_image_d15 rfl ?_
    refine wt_aload_n hE wp_md_image_d16 rfl ?_
    refine wt_getr hE (r := 282) wt_lf_md_109 (hD 108 (by decide) (by decide)) wt_L108 rfl wp_md_image_d17 ?_
    refine wt_aload_n hE wp_md_image_d20 rfl ?_
    refine wt_geti hE wt_lf_md_240 (hD 108 (by decide) (by decide)) wt_L108 rfl wp_md_image_d21 ?_
    obtain ⟨g2, h⟩ := wt_gd h
    have lg2 := wt_lt g2
    refine wt_aald1 hE (hD 282 (by decide) (by decide)) wt_L282 g2 wp_md_image_d24 ?_
    refine wt_iconst hE (0 : Int32) wp_md_image_d25 wt_ci_0 ?_
    obtain ⟨q3, hq3, h⟩ := wt_bi h
    refine wt_callVv hE [.ref (wt_ad (wt_xw X) ((283 + Int32.toNatClampNeg (wt_gf (wt_sf σ 108 0 (0 : Int32)) 108 41)))), .int (0 : Int32)] wt_lm_md_394 wt_ya_md_movesAll (wp_md_movesAll_ok hD (wt_lnE (wt_G283 _ lg2)) (hD _ (by omega) (by omega)) hq3) (by omega) (hD 108 (by decide) (by decide)) wt_L108 rfl rfl rfl (Nat.le_of_ble_eq_true rfl) (Nat.zero_le _) wp_md_image_d26 ?_
    refine wt_aload_n hE wp_md_image_d29 rfl ?_
    refine wt_dup hE wp_md_image_d30 rfl ?_
    refine wt_geti hE wt_lf_md_240 (hD 108 (by decide) (by decide)) wt_L108 rfl wp_md_image_d31 ?_
    refine wt_iconst hE (1 : Int32) wp_md_image_d34 wt_ci_1 ?_
    refine wt_iadd hE wp_md_image_d35 ?_
    refine wt_puti hE wt_lf_md_240 (hD 108 (by decide) (by decide)) wt_L108 rfl (fun q hq => by cases hq; rfl) wp_md_image_d36 ?_
    refine wt_aload_n hE wp_md_image_d39 rfl ?_
    refine wt_geti hE wt_lf_md_240 (hD 108 (by decide) (by decide)) wt_L108 rfl wp_md_image_d40 ?_
    cases h
    exact wt_iret hE hR wp_md_image_d43
  · have h := wt_ip c1 h
    refine wt_iconst hE (-1 : Int32) wp_md_image_d13 wt_ci_m1 ?_
    cases h
    exact wt_iret hE hR wp_md_image_d14
def wb17m7_prog_13_method_32_code_r0 : List (List Nat) := [26, 3, 16, 25, 184, 0, 185, 172] :: []
set_option maxRecDepth 100000 in
theorem wb17m7_prog_13_method_32_code_c0 : wt_cs prog_13_method_32_code 0 wb17m7_prog_13_method_32_code_r0 := wt_cs_of (by decide +kernel)
theorem wp_md_isLetter_d0 : decode prog_13_method_32_code 0 = .ok (.iload_n 0, 1) := wt_op26 wb17m7_prog_13_method_32_code_c0 0 rfl rfl
theorem wp_md_isLetter_d1 : decode prog_13_method_32_code 1 = .ok (.iconst 0, 1) := wt_op3 wb17m7_prog_13_method_32_code_c0 1 rfl rfl
theorem wp_md_isLetter_d2 : decode prog_13_method_32_code 2 = .ok (.bipush 25, 2) := wt_op16 wb17m7_prog_13_method_32_code_c0 2 rfl rfl rfl
theorem wp_md_isLetter_d4 : decode prog_13_method_32_code 4 = .ok (.invokestatic 185, 3) := wt_op184 wb17m7_prog_13_method_32_code_c0 4 rfl rfl rfl
theorem wp_md_isLetter_d7 : decode prog_13_method_32_code 7 = .ok (.ireturn, 1) := wt_op172 wb17m7_prog_13_method_32_code_c0 7 rfl rfl
noncomputable def wp_md_isLetter (n : Nat) (x0 : Int32) (σ : wt_St) : Option (Int32 × wt_St) :=
  (wp_md_in n x0 (0 : Int32) (25 : Int32) σ).bind fun q1 =>
  some (q1.1, q1.2)
set_option maxRecDepth 100000 in
set_option maxHeartbeats 4000000 in
theorem wp_md_isLetter_ok {l : Launch} {w : wt_E} {n : Nat} {x0 : Int32} {σ : wt_St} {q : Int32 × wt_St} (h : wp_md_isLetter n x0 σ = some q) : wt_Ctr l w wt_y_md_isLetter prog_13_method_32_code 1 (some .boolean) 1 [.int x0] σ (some q.1) q.2 := by
  refine wt_ctr wt_pl_md_isLetter rfl (Nat.le_of_ble_eq_true rfl) [some (.int x0)] rfl ?_
  intro X hXl hXw hE hR
  subst hXl
  subst hXw
  have hE : wt_Ok X prog_13_method_32_code 1 "WornTypeModel" 1 0 := hE
  unfold wp_md_isLetter at h
  refine wt_iload_n hE wp_md_isLetter_d0 rfl ?_
  refine wt_iconst hE (0 : Int32) wp_md_isLetter_d1 wt_ci_0 ?_
  refine wt_bipush hE (25 : Int32) wp_md_isLetter_d2 wt_cb_25 ?_
  obtain ⟨q1, hq1, h⟩ := wt_bi h
  refine wt_callSi hE [.int x0, .int (0 : Int32), .int (25 : Int32)] wt_lm_md_185 wt_ya_md_in (wp_md_in_ok hq1) (by omega) rfl rfl (Nat.le_of_ble_eq_true rfl) (Nat.zero_le _) wp_md_isLetter_d4 (fun hbq1 => ?_)
  cases h
  exact wt_zret hE (hbq1 rfl _ rfl) hR wp_md_isLetter_d7
def wb17m7_prog_13_method_83_code_r0 : List (List Nat) := [26, 3, 16, 100, 184, 0, 185, 172] :: []
set_option maxRecDepth 100000 in
theorem wb17m7_prog_13_method_83_code_c0 : wt_cs prog_13_method_83_code 0 wb17m7_prog_13_method_83_code_r0 := wt_cs_of (by decide +kernel)
theorem wp_md_isWeek_d0 : decode prog_13_method_83_code 0 = .ok (.iload_n 0, 1) := wt_op26 wb17m7_prog_13_method_83_code_c0 0 rfl rfl
theorem wp_md_isWeek_d1 : decode prog_13_method_83_code 1 = .ok (.iconst 0, 1) := wt_op3 wb17m7_prog_13_method_83_code_c0 1 rfl rfl
theorem wp_md_isWeek_d2 : decode prog_13_method_83_code 2 = .ok (.bipush 100, 2) := wt_op16 wb17m7_prog_13_method_83_code_c0 2 rfl rfl rfl
theorem wp_md_isWeek_d4 : decode prog_13_method_83_code 4 = .ok (.invokestatic 185, 3) := wt_op184 wb17m7_prog_13_method_83_code_c0 4 rfl rfl rfl
theorem wp_md_isWeek_d7 : decode prog_13_method_83_code 7 = .ok (.ireturn, 1) := wt_op172 wb17m7_prog_13_method_83_code_c0 7 rfl rfl
noncomputable def wp_md_isWeek (n : Nat) (x0 : Int32) (σ : wt_St) : Option (Int32 × wt_St) :=
  (wp_md_in n x0 (0 : Int32) (100 : Int32) σ).bind fun q1 =>
  some (q1.1, q1.2)
set_option maxRecDepth 100000 in
set_option maxHeartbeats 4000000 in
theorem wp_md_isWeek_ok {l : Launch} {w : wt_E} {n : Nat} {x0 : Int32} {σ : wt_St} {q : Int32 × wt_St} (h : wp_md_isWeek n x0 σ = some q) : wt_Ctr l w wt_y_md_isWeek prog_13_method_83_code 1 (some .boolean) 1 [.int x0] σ (some q.1) q.2 := by
  refine wt_ctr wt_pl_md_isWeek rfl (Nat.le_of_ble_eq_true rfl) [some (.int x0)] rfl ?_
  intro X hXl hXw hE hR
  subst hXl
  subst hXw
  have hE : wt_Ok X prog_13_method_83_code 1 "WornTypeModel" 1 0 := hE
  unfold wp_md_isWeek at h
  refine wt_iload_n hE wp_md_isWeek_d0 rfl ?_
  refine wt_iconst hE (0 : Int32) wp_md_isWeek_d1 wt_ci_0 ?_
  refine wt_bipush hE (100 : Int32) wp_md_isWeek_d2 wt_cb_100 ?_
  obtain ⟨q1, hq1, h⟩ := wt_bi h
  refine wt_callSi hE [.int x0, .int (0 : Int32), .int (100 : Int32)] wt_lm_md_185 wt_ya_md_in (wp_md_in_ok hq1) (by omega) rfl rfl (Nat.le_of_ble_eq_true rfl) (Nat.zero_le _) wp_md_isWeek_d4 (fun hbq1 => ?_)
  cases h
  exact wt_zret hE (hbq1 rfl _ rfl) hR wp_md_isWeek_d7
def wb17m7_prog_13_method_17_code_r1 : List (List Nat) := [42, 182, 0, 173, 177] :: []
def wb17m7_prog_13_method_17_code_r0 : List (List Nat) := [42, 3, 181, 0, 154, 42, 27, 181, 0, 157, 42, 3, 181, 0, 160, 42, 3, 181, 0, 167, 42, 2, 181, 0, 170, 42, 3, 181, 0, 196] :: wb17m7_prog_13_method_17_code_r1
set_option maxRecDepth 100000 in
theorem wb17m7_prog_13_method_17_code_c0 : wt_cs prog_13_method_17_code 0 wb17m7_prog_13_method_17_code_r0 := wt_cs_of (by decide +kernel)
theorem wb17m7_prog_13_method_17_code_c1 : wt_cs prog_13_method_17_code 30 wb17m7_prog_13_method_17_code_r1 := wt_cs_tl (m := 30) wb17m7_prog_13_method_17_code_c0 rfl rfl
theorem wp_md_starts_d0 : decode prog_13_method_17_code 0 = .ok (.aload_n 0, 1) := wt_op42 wb17m7_prog_13_method_17_code_c0 0 rfl rfl
theorem wp_md_starts_d1 : decode prog_13_method_17_code 1 = .ok (.iconst 0, 1) := wt_op3 wb17m7_prog_13_method_17_code_c0 1 rfl rfl
theorem wp_md_starts_d2 : decode prog_13_method_17_code 2 = .ok (.putfield 154, 3) := wt_op181 wb17m7_prog_13_method_17_code_c0 2 rfl rfl rfl
theorem wp_md_starts_d5 : decode prog_13_method_17_code 5 = .ok (.aload_n 0, 1) := wt_op42 wb17m7_prog_13_method_17_code_c0 5 rfl rfl
theorem wp_md_starts_d6 : decode prog_13_method_17_code 6 = .ok (.iload_n 1, 1) := wt_op27 wb17m7_prog_13_method_17_code_c0 6 rfl rfl
theorem wp_md_starts_d7 : decode prog_13_method_17_code 7 = .ok (.putfield 157, 3) := wt_op181 wb17m7_prog_13_method_17_code_c0 7 rfl rfl rfl
theorem wp_md_starts_d10 : decode prog_13_method_17_code 10 = .ok (.aload_n 0, 1) := wt_op42 wb17m7_prog_13_method_17_code_c0 10 rfl rfl
theorem wp_md_starts_d11 : decode prog_13_method_17_code 11 = .ok (.iconst 0, 1) := wt_op3 wb17m7_prog_13_method_17_code_c0 11 rfl rfl
theorem wp_md_starts_d12 : decode prog_13_method_17_code 12 = .ok (.putfield 160, 3) := wt_op181 wb17m7_prog_13_method_17_code_c0 12 rfl rfl rfl
theorem wp_md_starts_d15 : decode prog_13_method_17_code 15 = .ok (.aload_n 0, 1) := wt_op42 wb17m7_prog_13_method_17_code_c0 15 rfl rfl
theorem wp_md_starts_d16 : decode prog_13_method_17_code 16 = .ok (.iconst 0, 1) := wt_op3 wb17m7_prog_13_method_17_code_c0 16 rfl rfl
theorem wp_md_starts_d17 : decode prog_13_method_17_code 17 = .ok (.putfield 167, 3) := wt_op181 wb17m7_prog_13_method_17_code_c0 17 rfl rfl rfl
theorem wp_md_starts_d20 : decode prog_13_method_17_code 20 = .ok (.aload_n 0, 1) := wt_op42 wb17m7_prog_13_method_17_code_c0 20 rfl rfl
theorem wp_md_starts_d21 : decode prog_13_method_17_code 21 = .ok (.iconst (-1), 1) := wt_op2 wb17m7_prog_13_method_17_code_c0 21 rfl rfl
theorem wp_md_starts_d22 : decode prog_13_method_17_code 22 = .ok (.putfield 170, 3) := wt_op181 wb17m7_prog_13_method_17_code_c0 22 rfl rfl rfl
theorem wp_md_starts_d25 : decode prog_13_method_17_code 25 = .ok (.aload_n 0, 1) := wt_op42 wb17m7_prog_13_method_17_code_c0 25 rfl rfl
theorem wp_md_starts_d26 : decode prog_13_method_17_code 26 = .ok (.iconst 0, 1) := wt_op3 wb17m7_prog_13_method_17_code_c0 26 rfl rfl
theorem wp_md_starts_d27 : decode prog_13_method_17_code 27 = .ok (.putfield 196, 3) := wt_op181 wb17m7_prog_13_method_17_code_c0 27 rfl rfl rfl
theorem wp_md_starts_d30 : decode prog_13_method_17_code 30 = .ok (.aload_n 0, 1) := wt_op42 wb17m7_prog_13_method_17_code_c1 0 rfl rfl
theorem wp_md_starts_d31 : decode prog_13_method_17_code 31 = .ok (.invokevirtual 173, 3) := wt_op182 wb17m7_prog_13_method_17_code_c1 1 rfl rfl rfl
theorem wp_md_starts_d34 : decode prog_13_method_17_code 34 = .ok (.return_, 1) := wt_op177 wb17m7_prog_13_method_17_code_c1 4 rfl rfl
noncomputable def wp_md_starts (n : Nat) (x1 : Int32) (σ : wt_St) : Option (wt_St) :=
  (wp_md_blanks n (wt_sf (wt_sf (wt_sf (wt_sf (wt_sf (wt_sf σ 108 1 (0 : Int32)) 108 2 x1) 108 4 (0 : Int32)) 108 5 (0 : Int32)) 108 6 (-1 : Int32)) 108 7 (0 : Int32))).bind fun q1 =>
  some q1
set_option maxRecDepth 100000 in
set_option maxHeartbeats 4000000 in
theorem wp_md_starts_ok {l : Launch} {w : wt_E} {n : Nat} {x1 : Int32} (hD : ∀ i, 108 ≤ i → i < 321 → wt_dom w i) {σ : wt_St} {q : wt_St} (h : wp_md_starts n x1 σ = some q) : wt_Ctr l w wt_y_md_starts prog_13_method_17_code 2 none 2 [.ref (wt_ad w 108), .int x1] σ none q := by
  refine wt_ctr wt_pl_md_starts rfl (Nat.le_of_ble_eq_true rfl) [some (.ref (wt_ad w 108)), some (.int x1)] rfl ?_
  intro X hXl hXw hE hR
  subst hXl
  subst hXw
  have hE : wt_Ok X prog_13_method_17_code 2 "WornTypeModel" 2 0 := hE
  unfold wp_md_starts at h
  refine wt_aload_n hE wp_md_starts_d0 rfl ?_
  refine wt_iconst hE (0 : Int32) wp_md_starts_d1 wt_ci_0 ?_
  refine wt_puti hE wt_lf_md_154 (hD 108 (by decide) (by decide)) wt_L108 rfl (fun q hq => by cases hq; rfl) wp_md_starts_d2 ?_
  refine wt_aload_n hE wp_md_starts_d5 rfl ?_
  refine wt_iload_n hE wp_md_starts_d6 rfl ?_
  refine wt_puti hE wt_lf_md_157 (hD 108 (by decide) (by decide)) wt_L108 rfl (fun q hq => by cases hq; rfl) wp_md_starts_d7 ?_
  refine wt_aload_n hE wp_md_starts_d10 rfl ?_
  refine wt_iconst hE (0 : Int32) wp_md_starts_d11 wt_ci_0 ?_
  refine wt_puti hE wt_lf_md_160 (hD 108 (by decide) (by decide)) wt_L108 rfl (fun q hq => by cases hq; rfl) wp_md_starts_d12 ?_
  refine wt_aload_n hE wp_md_starts_d15 rfl ?_
  refine wt_iconst hE (0 : Int32) wp_md_starts_d16 wt_ci_0 ?_
  refine wt_puti hE wt_lf_md_167 (hD 108 (by decide) (by decide)) wt_L108 rfl (fun q hq => by cases hq; rfl) wp_md_starts_d17 ?_
  refine wt_aload_n hE wp_md_starts_d20 rfl ?_
  refine wt_iconst hE (-1 : Int32) wp_md_starts_d21 wt_ci_m1 ?_
  refine wt_puti hE wt_lf_md_170 (hD 108 (by decide) (by decide)) wt_L108 rfl (fun q hq => by cases hq; rfl) wp_md_starts_d22 ?_
  refine wt_aload_n hE wp_md_starts_d25 rfl ?_
  refine wt_iconst hE (0 : Int32) wp_md_starts_d26 wt_ci_0 ?_
  refine wt_puti hE wt_lf_md_196 (hD 108 (by decide) (by decide)) wt_L108 rfl (fun q hq => by cases hq; rfl) wp_md_starts_d27 ?_
  refine wt_aload_n hE wp_md_starts_d30 rfl ?_
  obtain ⟨q1, hq1, h⟩ := wt_bi h
  refine wt_callVv hE [] wt_lm_md_173 wt_ya_md_blanks (wp_md_blanks_ok hD hq1) (by omega) (hD 108 (by decide) (by decide)) wt_L108 rfl rfl rfl (Nat.le_of_ble_eq_true rfl) (Nat.zero_le _) wp_md_starts_d31 ?_
  cases h
  exact wt_vret hE hR wp_md_starts_d34
def wb17m7_prog_13_method_19_code_r4 : List (List Nat) := [27, 46, 79, 42, 180, 0, 59, 27, 2, 79, 132, 1, 1, 167, 255, 215, 42, 42, 180, 0, 199, 181, 0, 202, 177] :: []
def wb17m7_prog_13_method_19_code_r3 : List (List Nat) := [3, 60, 27, 17, 1, 82, 162, 0, 40, 42, 180, 0, 50, 27, 42, 180, 0, 47, 27, 46, 79, 42, 180, 0, 56, 27, 42, 180, 0, 53] :: wb17m7_prog_13_method_19_code_r4
def wb17m7_prog_13_method_19_code_r2 : List (List Nat) := [167, 255, 199, 3, 60, 27, 7, 162, 0, 21, 42, 180, 0, 44, 27, 42, 180, 0, 41, 27, 46, 79, 132, 1, 1, 167, 255, 236] :: wb17m7_prog_13_method_19_code_r3
def wb17m7_prog_13_method_19_code_r1 : List (List Nat) := [27, 46, 79, 42, 180, 0, 32, 27, 42, 180, 0, 29, 27, 46, 79, 42, 180, 0, 38, 27, 42, 180, 0, 35, 27, 46, 79, 132, 1, 1] :: wb17m7_prog_13_method_19_code_r2
def wb17m7_prog_13_method_19_code_r0 : List (List Nat) := [3, 60, 27, 16, 26, 162, 0, 57, 42, 180, 0, 20, 27, 42, 180, 0, 17, 27, 46, 79, 42, 180, 0, 26, 27, 42, 180, 0, 23] :: wb17m7_prog_13_method_19_code_r1
set_option maxRecDepth 100000 in
theorem wb17m7_prog_13_method_19_code_c0 : wt_cs prog_13_method_19_code 0 wb17m7_prog_13_method_19_code_r0 := wt_cs_of (by decide +kernel)
theorem wb17m7_prog_13_method_19_code_c1 : wt_cs prog_13_method_19_code 29 wb17m7_prog_13_method_19_code_r1 := wt_cs_tl (m := 29) wb17m7_prog_13_method_19_code_c0 rfl rfl
theorem wb17m7_prog_13_method_19_code_c2 : wt_cs prog_13_method_19_code 59 wb17m7_prog_13_method_19_code_r2 := wt_cs_tl (m := 30) wb17m7_prog_13_method_19_code_c1 rfl rfl
theorem wb17m7_prog_13_method_19_code_c3 : wt_cs prog_13_method_19_code 87 wb17m7_prog_13_method_19_code_r3 := wt_cs_tl (m := 28) wb17m7_prog_13_method_19_code_c2 rfl rfl
theorem wb17m7_prog_13_method_19_code_c4 : wt_cs prog_13_method_19_code 117 wb17m7_prog_13_method_19_code_r4 := wt_cs_tl (m := 30) wb17m7_prog_13_method_19_code_c3 rfl rfl
theorem wp_md_takesCase_d0 : decode prog_13_method_19_code 0 = .ok (.iconst 0, 1) := wt_op3 wb17m7_prog_13_method_19_code_c0 0 rfl rfl
theorem wp_md_takesCase_d1 : decode prog_13_method_19_code 1 = .ok (.istore_n 1, 1) := wt_op60 wb17m7_prog_13_method_19_code_c0 1 rfl rfl
theorem wp_md_takesCase_d2 : decode prog_13_method_19_code 2 = .ok (.iload_n 1, 1) := wt_op27 wb17m7_prog_13_method_19_code_c0 2 rfl rfl
theorem wp_md_takesCase_d3 : decode prog_13_method_19_code 3 = .ok (.bipush 26, 2) := wt_op16 wb17m7_prog_13_method_19_code_c0 3 rfl rfl rfl
theorem wp_md_takesCase_d5 : decode prog_13_method_19_code 5 = .ok (.if_icmp .ge 57, 3) := wt_op162 wb17m7_prog_13_method_19_code_c0 5 rfl rfl rfl
theorem wp_md_takesCase_d8 : decode prog_13_method_19_code 8 = .ok (.aload_n 0, 1) := wt_op42 wb17m7_prog_13_method_19_code_c0 8 rfl rfl
theorem wp_md_takesCase_d9 : decode prog_13_method_19_code 9 = .ok (.getfield 20, 3) := wt_op180 wb17m7_prog_13_method_19_code_c0 9 rfl rfl rfl
theorem wp_md_takesCase_d12 : decode prog_13_method_19_code 12 = .ok (.iload_n 1, 1) := wt_op27 wb17m7_prog_13_method_19_code_c0 12 rfl rfl
theorem wp_md_takesCase_d13 : decode prog_13_method_19_code 13 = .ok (.aload_n 0, 1) := wt_op42 wb17m7_prog_13_method_19_code_c0 13 rfl rfl
theorem wp_md_takesCase_d14 : decode prog_13_method_19_code 14 = .ok (.getfield 17, 3) := wt_op180 wb17m7_prog_13_method_19_code_c0 14 rfl rfl rfl
theorem wp_md_takesCase_d17 : decode prog_13_method_19_code 17 = .ok (.iload_n 1, 1) := wt_op27 wb17m7_prog_13_method_19_code_c0 17 rfl rfl
theorem wp_md_takesCase_d18 : decode prog_13_method_19_code 18 = .ok (.iaload, 1) := wt_op46 wb17m7_prog_13_method_19_code_c0 18 rfl rfl
theorem wp_md_takesCase_d19 : decode prog_13_method_19_code 19 = .ok (.iastore, 1) := wt_op79 wb17m7_prog_13_method_19_code_c0 19 rfl rfl
theorem wp_md_takesCase_d20 : decode prog_13_method_19_code 20 = .ok (.aload_n 0, 1) := wt_op42 wb17m7_prog_13_method_19_code_c0 20 rfl rfl
theorem wp_md_takesCase_d21 : decode prog_13_method_19_code 21 = .ok (.getfield 26, 3) := wt_op180 wb17m7_prog_13_method_19_code_c0 21 rfl rfl rfl
theorem wp_md_takesCase_d24 : decode prog_13_method_19_code 24 = .ok (.iload_n 1, 1) := wt_op27 wb17m7_prog_13_method_19_code_c0 24 rfl rfl
theorem wp_md_takesCase_d25 : decode prog_13_method_19_code 25 = .ok (.aload_n 0, 1) := wt_op42 wb17m7_prog_13_method_19_code_c0 25 rfl rfl
theorem wp_md_takesCase_d26 : decode prog_13_method_19_code 26 = .ok (.getfield 23, 3) := wt_op180 wb17m7_prog_13_method_19_code_c0 26 rfl rfl rfl
theorem wp_md_takesCase_d29 : decode prog_13_method_19_code 29 = .ok (.iload_n 1, 1) := wt_op27 wb17m7_prog_13_method_19_code_c1 0 rfl rfl
theorem wp_md_takesCase_d30 : decode prog_13_method_19_code 30 = .ok (.iaload, 1) := wt_op46 wb17m7_prog_13_method_19_code_c1 1 rfl rfl
theorem wp_md_takesCase_d31 : decode prog_13_method_19_code 31 = .ok (.iastore, 1) := wt_op79 wb17m7_prog_13_method_19_code_c1 2 rfl rfl
theorem wp_md_takesCase_d32 : decode prog_13_method_19_code 32 = .ok (.aload_n 0, 1) := wt_op42 wb17m7_prog_13_method_19_code_c1 3 rfl rfl
theorem wp_md_takesCase_d33 : decode prog_13_method_19_code 33 = .ok (.getfield 32, 3) := wt_op180 wb17m7_prog_13_method_19_code_c1 4 rfl rfl rfl
theorem wp_md_takesCase_d36 : decode prog_13_method_19_code 36 = .ok (.iload_n 1, 1) := wt_op27 wb17m7_prog_13_method_19_code_c1 7 rfl rfl
theorem wp_md_takesCase_d37 : decode prog_13_method_19_code 37 = .ok (.aload_n 0, 1) := wt_op42 wb17m7_prog_13_method_19_code_c1 8 rfl rfl
theorem wp_md_takesCase_d38 : decode prog_13_method_19_code 38 = .ok (.getfield 29, 3) := wt_op180 wb17m7_prog_13_method_19_code_c1 9 rfl rfl rfl
theorem wp_md_takesCase_d41 : decode prog_13_method_19_code 41 = .ok (.iload_n 1, 1) := wt_op27 wb17m7_prog_13_method_19_code_c1 12 rfl rfl
theorem wp_md_takesCase_d42 : decode prog_13_method_19_code 42 = .ok (.iaload, 1) := wt_op46 wb17m7_prog_13_method_19_code_c1 13 rfl rfl
theorem wp_md_takesCase_d43 : decode prog_13_method_19_code 43 = .ok (.iastore, 1) := wt_op79 wb17m7_prog_13_method_19_code_c1 14 rfl rfl
theorem wp_md_takesCase_d44 : decode prog_13_method_19_code 44 = .ok (.aload_n 0, 1) := wt_op42 wb17m7_prog_13_method_19_code_c1 15 rfl rfl
theorem wp_md_takesCase_d45 : decode prog_13_method_19_code 45 = .ok (.getfield 38, 3) := wt_op180 wb17m7_prog_13_method_19_code_c1 16 rfl rfl rfl
theorem wp_md_takesCase_d48 : decode prog_13_method_19_code 48 = .ok (.iload_n 1, 1) := wt_op27 wb17m7_prog_13_method_19_code_c1 19 rfl rfl
theorem wp_md_takesCase_d49 : decode prog_13_method_19_code 49 = .ok (.aload_n 0, 1) := wt_op42 wb17m7_prog_13_method_19_code_c1 20 rfl rfl
theorem wp_md_takesCase_d50 : decode prog_13_method_19_code 50 = .ok (.getfield 35, 3) := wt_op180 wb17m7_prog_13_method_19_code_c1 21 rfl rfl rfl
theorem wp_md_takesCase_d53 : decode prog_13_method_19_code 53 = .ok (.iload_n 1, 1) := wt_op27 wb17m7_prog_13_method_19_code_c1 24 rfl rfl
theorem wp_md_takesCase_d54 : decode prog_13_method_19_code 54 = .ok (.iaload, 1) := wt_op46 wb17m7_prog_13_method_19_code_c1 25 rfl rfl
theorem wp_md_takesCase_d55 : decode prog_13_method_19_code 55 = .ok (.iastore, 1) := wt_op79 wb17m7_prog_13_method_19_code_c1 26 rfl rfl
theorem wp_md_takesCase_d56 : decode prog_13_method_19_code 56 = .ok (.iinc 1 1, 3) := wt_op132 wb17m7_prog_13_method_19_code_c1 27 rfl rfl rfl
theorem wp_md_takesCase_d59 : decode prog_13_method_19_code 59 = .ok (.goto (-57), 3) := wt_op167 wb17m7_prog_13_method_19_code_c2 0 rfl rfl rfl
theorem wp_md_takesCase_d62 : decode prog_13_method_19_code 62 = .ok (.iconst 0, 1) := wt_op3 wb17m7_prog_13_method_19_code_c2 3 rfl rfl
theorem wp_md_takesCase_d63 : decode prog_13_method_19_code 63 = .ok (.istore_n 1, 1) := wt_op60 wb17m7_prog_13_method_19_code_c2 4 rfl rfl
theorem wp_md_takesCase_d64 : decode prog_13_method_19_code 64 = .ok (.iload_n 1, 1) := wt_op27 wb17m7_prog_13_method_19_code_c2 5 rfl rfl
theorem wp_md_takesCase_d65 : decode prog_13_method_19_code 65 = .ok (.iconst 4, 1) := wt_op7 wb17m7_prog_13_method_19_code_c2 6 rfl rfl
theorem wp_md_takesCase_d66 : decode prog_13_method_19_code 66 = .ok (.if_icmp .ge 21, 3) := wt_op162 wb17m7_prog_13_method_19_code_c2 7 rfl rfl rfl
theorem wp_md_takesCase_d69 : decode prog_13_method_19_code 69 = .ok (.aload_n 0, 1) := wt_op42 wb17m7_prog_13_method_19_code_c2 10 rfl rfl
theorem wp_md_takesCase_d70 : decode prog_13_method_19_code 70 = .ok (.getfield 44, 3) := wt_op180 wb17m7_prog_13_method_19_code_c2 11 rfl rfl rfl
theorem wp_md_takesCase_d73 : decode prog_13_method_19_code 73 = .ok (.iload_n 1, 1) := wt_op27 wb17m7_prog_13_method_19_code_c2 14 rfl rfl
theorem wp_md_takesCase_d74 : decode prog_13_method_19_code 74 = .ok (.aload_n 0, 1) := wt_op42 wb17m7_prog_13_method_19_code_c2 15 rfl rfl
theorem wp_md_takesCase_d75 : decode prog_13_method_19_code 75 = .ok (.getfield 41, 3) := wt_op180 wb17m7_prog_13_method_19_code_c2 16 rfl rfl rfl
theorem wp_md_takesCase_d78 : decode prog_13_method_19_code 78 = .ok (.iload_n 1, 1) := wt_op27 wb17m7_prog_13_method_19_code_c2 19 rfl rfl
theorem wp_md_takesCase_d79 : decode prog_13_method_19_code 79 = .ok (.iaload, 1) := wt_op46 wb17m7_prog_13_method_19_code_c2 20 rfl rfl
theorem wp_md_takesCase_d80 : decode prog_13_method_19_code 80 = .ok (.iastore, 1) := wt_op79 wb17m7_prog_13_method_19_code_c2 21 rfl rfl
theorem wp_md_takesCase_d81 : decode prog_13_method_19_code 81 = .ok (.iinc 1 1, 3) := wt_op132 wb17m7_prog_13_method_19_code_c2 22 rfl rfl rfl
theorem wp_md_takesCase_d84 : decode prog_13_method_19_code 84 = .ok (.goto (-20), 3) := wt_op167 wb17m7_prog_13_method_19_code_c2 25 rfl rfl rfl
theorem wp_md_takesCase_d87 : decode prog_13_method_19_code 87 = .ok (.iconst 0, 1) := wt_op3 wb17m7_prog_13_method_19_code_c3 0 rfl rfl
theorem wp_md_takesCase_d88 : decode prog_13_method_19_code 88 = .ok (.istore_n 1, 1) := wt_op60 wb17m7_prog_13_method_19_code_c3 1 rfl rfl
theorem wp_md_takesCase_d89 : decode prog_13_method_19_code 89 = .ok (.iload_n 1, 1) := wt_op27 wb17m7_prog_13_method_19_code_c3 2 rfl rfl
theorem wp_md_takesCase_d90 : decode prog_13_method_19_code 90 = .ok (.sipush 338, 3) := wt_op17 wb17m7_prog_13_method_19_code_c3 3 rfl rfl rfl
theorem wp_md_takesCase_d93 : decode prog_13_method_19_code 93 = .ok (.if_icmp .ge 40, 3) := wt_op162 wb17m7_prog_13_method_19_code_c3 6 rfl rfl rfl
theorem wp_md_takesCase_d96 : decode prog_13_method_19_code 96 = .ok (.aload_n 0, 1) := wt_op42 wb17m7_prog_13_method_19_code_c3 9 rfl rfl
theorem wp_md_takesCase_d97 : decode prog_13_method_19_code 97 = .ok (.getfield 50, 3) := wt_op180 wb17m7_prog_13_method_19_code_c3 10 rfl rfl rfl
theorem wp_md_takesCase_d100 : decode prog_13_method_19_code 100 = .ok (.iload_n 1, 1) := wt_op27 wb17m7_prog_13_method_19_code_c3 13 rfl rfl
theorem wp_md_takesCase_d101 : decode prog_13_method_19_code 101 = .ok (.aload_n 0, 1) := wt_op42 wb17m7_prog_13_method_19_code_c3 14 rfl rfl
theorem wp_md_takesCase_d102 : decode prog_13_method_19_code 102 = .ok (.getfield 47, 3) := wt_op180 wb17m7_prog_13_method_19_code_c3 15 rfl rfl rfl
theorem wp_md_takesCase_d105 : decode prog_13_method_19_code 105 = .ok (.iload_n 1, 1) := wt_op27 wb17m7_prog_13_method_19_code_c3 18 rfl rfl
theorem wp_md_takesCase_d106 : decode prog_13_method_19_code 106 = .ok (.iaload, 1) := wt_op46 wb17m7_prog_13_method_19_code_c3 19 rfl rfl
theorem wp_md_takesCase_d107 : decode prog_13_method_19_code 107 = .ok (.iastore, 1) := wt_op79 wb17m7_prog_13_method_19_code_c3 20 rfl rfl
theorem wp_md_takesCase_d108 : decode prog_13_method_19_code 108 = .ok (.aload_n 0, 1) := wt_op42 wb17m7_prog_13_method_19_code_c3 21 rfl rfl
theorem wp_md_takesCase_d109 : decode prog_13_method_19_code 109 = .ok (.getfield 56, 3) := wt_op180 wb17m7_prog_13_method_19_code_c3 22 rfl rfl rfl
theorem wp_md_takesCase_d112 : decode prog_13_method_19_code 112 = .ok (.iload_n 1, 1) := wt_op27 wb17m7_prog_13_method_19_code_c3 25 rfl rfl
theorem wp_md_takesCase_d113 : decode prog_13_method_19_code 113 = .ok (.aload_n 0, 1) := wt_op42 wb17m7_prog_13_method_19_code_c3 26 rfl rfl
theorem wp_md_takesCase_d114 : decode prog_13_method_19_code 114 = .ok (.getfield 53, 3) := wt_op180 wb17m7_prog_13_method_19_code_c3 27 rfl rfl rfl
theorem wp_md_takesCase_d117 : decode prog_13_method_19_code 117 = .ok (.iload_n 1, 1) := wt_op27 wb17m7_prog_13_method_19_code_c4 0 rfl rfl
theorem wp_md_takesCase_d118 : decode prog_13_method_19_code 118 = .ok (.iaload, 1) := wt_op46 wb17m7_prog_13_method_19_code_c4 1 rfl rfl
theorem wp_md_takesCase_d119 : decode prog_13_method_19_code 119 = .ok (.iastore, 1) := wt_op79 wb17m7_prog_13_method_19_code_c4 2 rfl rfl
theorem wp_md_takesCase_d120 : decode prog_13_method_19_code 120 = .ok (.aload_n 0, 1) := wt_op42 wb17m7_prog_13_method_19_code_c4 3 rfl rfl
theorem wp_md_takesCase_d121 : decode prog_13_method_19_code 121 = .ok (.getfield 59, 3) := wt_op180 wb17m7_prog_13_method_19_code_c4 4 rfl rfl rfl
theorem wp_md_takesCase_d124 : decode prog_13_method_19_code 124 = .ok (.iload_n 1, 1) := wt_op27 wb17m7_prog_13_method_19_code_c4 7 rfl rfl
theorem wp_md_takesCase_d125 : decode prog_13_method_19_code 125 = .ok (.iconst (-1), 1) := wt_op2 wb17m7_prog_13_method_19_code_c4 8 rfl rfl
theorem wp_md_takesCase_d126 : decode prog_13_method_19_code 126 = .ok (.iastore, 1) := wt_op79 wb17m7_prog_13_method_19_code_c4 9 rfl rfl
theorem wp_md_takesCase_d127 : decode prog_13_method_19_code 127 = .ok (.iinc 1 1, 3) := wt_op132 wb17m7_prog_13_method_19_code_c4 10 rfl rfl rfl
theorem wp_md_takesCase_d130 : decode prog_13_method_19_code 130 = .ok (.goto (-41), 3) := wt_op167 wb17m7_prog_13_method_19_code_c4 13 rfl rfl rfl
theorem wp_md_takesCase_d133 : decode prog_13_method_19_code 133 = .ok (.aload_n 0, 1) := wt_op42 wb17m7_prog_13_method_19_code_c4 16 rfl rfl
theorem wp_md_takesCase_d134 : decode prog_13_method_19_code 134 = .ok (.aload_n 0, 1) := wt_op42 wb17m7_prog_13_method_19_code_c4 17 rfl rfl
theorem wp_md_takesCase_d135 : decode prog_13_method_19_code 135 = .ok (.getfield 199, 3) := wt_op180 wb17m7_prog_13_method_19_code_c4 18 rfl rfl rfl
theorem wp_md_takesCase_d138 : decode prog_13_method_19_code 138 = .ok (.putfield 202, 3) := wt_op181 wb17m7_prog_13_method_19_code_c4 21 rfl rfl rfl
theorem wp_md_takesCase_d141 : decode prog_13_method_19_code 141 = .ok (.return_, 1) := wt_op177 wb17m7_prog_13_method_19_code_c4 24 rfl rfl
noncomputable def wp_md_takesCase_B89 (n : Nat) (K89 : Int32 × wt_St → Option (wt_St)) (s : Int32 × wt_St) : Option (wt_St) :=
  if (338 : Int32) ≤ s.1 then
    some (wt_sf s.2 108 25 (wt_gf s.2 108 24))
  else
    if s.1 < 0 ∨ 338 ≤ Int32.toNatClampNeg s.1 then none else
    if s.1 < 0 ∨ 338 ≤ Int32.toNatClampNeg s.1 then none else
    if s.1 < 0 ∨ 338 ≤ Int32.toNatClampNeg s.1 then none else
    if s.1 < 0 ∨ 338 ≤ Int32.toNatClampNeg s.1 then none else
    if s.1 < 0 ∨ 338 ≤ Int32.toNatClampNeg s.1 then none else
    K89 ((s.1 + (1 : Int32)), (wt_sa (wt_sa (wt_sa s.2 121 (Int32.toNatClampNeg s.1) (wt_ga s.2 120 (Int32.toNatClampNeg s.1))) 123 (Int32.toNatClampNeg s.1) (wt_ga (wt_sa s.2 121 (Int32.toNatClampNeg s.1) (wt_ga s.2 120 (Int32.toNatClampNeg s.1))) 122 (Int32.toNatClampNeg s.1))) 124 (Int32.toNatClampNeg s.1) (-1 : Int32)))
set_option maxRecDepth 100000 in
set_option maxHeartbeats 4000000 in
theorem wp_md_takesCase_B89_ok  {X : wt_X} {n : Nat} {res : wt_St} (hE : wt_Ok X prog_13_method_19_code 2 "WornTypeModel" 0 0) (hR : wt_Rt X none none res) (hD : ∀ i, 108 ≤ i → i < 321 → wt_dom (wt_xw X) i)  {K89 : Int32 × wt_St → Option (wt_St)} (hK89 : ∀ s : Int32 × wt_St, K89 s = some res → wt_V X 0 s.2 89 [some (.ref (wt_ad (wt_xw X) 108)), some (.int s.1)] []) {s : Int32 × wt_St} (h : wp_md_takesCase_B89 n K89 s = some res) : wt_V X 0 s.2 89 [some (.ref (wt_ad (wt_xw X) 108)), some (.int s.1)] [] := by
  unfold wp_md_takesCase_B89 at h
  refine wt_iload_n hE wp_md_takesCase_d89 rfl ?_
  refine wt_sipush hE (338 : Int32) wp_md_takesCase_d90 wt_cs_338 ?_
  refine wt_icmp_ge hE 133 wp_md_takesCase_d93 rfl (fun c3 => ?_) (fun c3 => ?_)
  · have h := wt_ip c3 h
    refine wt_aload_n hE wp_md_takesCase_d133 rfl ?_
    refine wt_aload_n hE wp_md_takesCase_d134 rfl ?_
    refine wt_geti hE wt_lf_md_199 (hD 108 (by decide) (by decide)) wt_L108 rfl wp_md_takesCase_d135 ?_
    refine wt_puti hE wt_lf_md_202 (hD 108 (by decide) (by decide)) wt_L108 rfl (fun q hq => by cases hq; rfl) wp_md_takesCase_d138 ?_
    cases h
    exact wt_vret hE hR wp_md_takesCase_d141
  · have h := wt_in c3 h
    refine wt_aload_n hE wp_md_takesCase_d96 rfl ?_
    refine wt_getr hE (r := 121) wt_lf_md_50 (hD 108 (by decide) (by decide)) wt_L108 rfl wp_md_takesCase_d97 ?_
    refine wt_iload_n hE wp_md_takesCase_d100 rfl ?_
    refine wt_aload_n hE wp_md_takesCase_d101 rfl ?_
    refine wt_getr hE (r := 120) wt_lf_md_47 (hD 108 (by decide) (by decide)) wt_L108 rfl wp_md_takesCase_d102 ?_
    refine wt_iload_n hE wp_md_takesCase_d105 rfl ?_
    obtain ⟨g4, h⟩ := wt_gd h
    refine wt_iald hE (hD 120 (by decide) (by decide)) wt_L120 g4 wp_md_takesCase_d106 ?_
    obtain ⟨g5, h⟩ := wt_gd h
    refine wt_iast hE (hD 121 (by decide) (by decide)) wt_L121 g5 wp_md_takesCase_d107 ?_
    refine wt_aload_n hE wp_md_takesCase_d108 rfl ?_
    refine wt_getr hE (r := 123) wt_lf_md_56 (hD 108 (by decide) (by decide)) wt_L108 rfl wp_md_takesCase_d109 ?_
    refine wt_iload_n hE wp_md_takesCase_d112 rfl ?_
    refine wt_aload_n hE wp_md_takesCase_d113 rfl ?_
    refine wt_getr hE (r := 122) wt_lf_md_53 (hD 108 (by decide) (by decide)) wt_L108 rfl wp_md_takesCase_d114 ?_
    refine wt_iload_n hE wp_md_takesCase_d117 rfl ?_
    obtain ⟨g6, h⟩ := wt_gd h
    refine wt_iald hE (hD 122 (by decide) (by decide)) wt_L122 g6 wp_md_takesCase_d118 ?_
    obtain ⟨g7, h⟩ := wt_gd h
    refine wt_iast hE (hD 123 (by decide) (by decide)) wt_L123 g7 wp_md_takesCase_d119 ?_
    refine wt_aload_n hE wp_md_takesCase_d120 rfl ?_
    refine wt_getr hE (r := 124) wt_lf_md_59 (hD 108 (by decide) (by decide)) wt_L108 rfl wp_md_takesCase_d121 ?_
    refine wt_iload_n hE wp_md_takesCase_d124 rfl ?_
    refine wt_iconst hE (-1 : Int32) wp_md_takesCase_d125 wt_ci_m1 ?_
    obtain ⟨g8, h⟩ := wt_gd h
    refine wt_iast hE (hD 124 (by decide) (by decide)) wt_L124 g8 wp_md_takesCase_d126 ?_
    refine wt_iinc hE (s.1 + (1 : Int32)) [some (.ref (wt_ad (wt_xw X) 108)), some (.int (s.1 + (1 : Int32)))] wp_md_takesCase_d127 (by decide) rfl rfl rfl ?_
    refine wt_goto hE 89 wp_md_takesCase_d130 rfl ?_
    exact hK89 ((s.1 + (1 : Int32)), (wt_sa (wt_sa (wt_sa s.2 121 (Int32.toNatClampNeg s.1) (wt_ga s.2 120 (Int32.toNatClampNeg s.1))) 123 (Int32.toNatClampNeg s.1) (wt_ga (wt_sa s.2 121 (Int32.toNatClampNeg s.1) (wt_ga s.2 120 (Int32.toNatClampNeg s.1))) 122 (Int32.toNatClampNeg s.1))) 124 (Int32.toNatClampNeg s.1) (-1 : Int32))) h
noncomputable def wp_md_takesCase_B64 (n : Nat) (K64 : Int32 × wt_St → Option (wt_St)) (s : Int32 × wt_St) : Option (wt_St) :=
  if (4 : Int32) ≤ s.1 then
    wt_it (wp_md_takesCase_B89 n) n ((0 : Int32), s.2)
  else
    if s.1 < 0 ∨ 4 ≤ Int32.toNatClampNeg s.1 then none else
    if s.1 < 0 ∨ 4 ≤ Int32.toNatClampNeg s.1 then none else
    K64 ((s.1 + (1 : Int32)), (wt_sa s.2 119 (Int32.toNatClampNeg s.1) (wt_ga s.2 118 (Int32.toNatClampNeg s.1))))
set_option maxRecDepth 100000 in
set_option maxHeartbeats 4000000 in
theorem wp_md_takesCase_B64_ok  {X : wt_X} {n : Nat} {res : wt_St} (hE : wt_Ok X prog_13_method_19_code 2 "WornTypeModel" 0 0) (hR : wt_Rt X none none res) (hD : ∀ i, 108 ≤ i → i < 321 → wt_dom (wt_xw X) i)  {K64 : Int32 × wt_St → Option (wt_St)} (hK64 : ∀ s : Int32 × wt_St, K64 s = some res → wt_V X 0 s.2 64 [some (.ref (wt_ad (wt_xw X) 108)), some (.int s.1)] []) {s : Int32 × wt_St} (h : wp_md_takesCase_B64 n K64 s = some res) : wt_V X 0 s.2 64 [some (.ref (wt_ad (wt_xw X) 108)), some (.int s.1)] [] := by
  unfold wp_md_takesCase_B64 at h
  refine wt_iload_n hE wp_md_takesCase_d64 rfl ?_
  refine wt_iconst hE (4 : Int32) wp_md_takesCase_d65 wt_ci_4 ?_
  refine wt_icmp_ge hE 87 wp_md_takesCase_d66 rfl (fun c2 => ?_) (fun c2 => ?_)
  · have h := wt_ip c2 h
    refine wt_iconst hE (0 : Int32) wp_md_takesCase_d87 wt_ci_0 ?_
    refine wt_istore_n hE [some (.ref (wt_ad (wt_xw X) 108)), some (.int (0 : Int32))] wp_md_takesCase_d88 (by decide) rfl ?_
    exact wt_it_ind (fun z => wt_V X 0 z.2 89 [some (.ref (wt_ad (wt_xw X) 108)), some (.int z.1)] []) (fun K hK z h => wp_md_takesCase_B89_ok hE hR hD hK h) n ((0 : Int32), s.2) h
  · have h := wt_in c2 h
    refine wt_aload_n hE wp_md_takesCase_d69 rfl ?_
    refine wt_getr hE (r := 119) wt_lf_md_44 (hD 108 (by decide) (by decide)) wt_L108 rfl wp_md_takesCase_d70 ?_
    refine wt_iload_n hE wp_md_takesCase_d73 rfl ?_
    refine wt_aload_n hE wp_md_takesCase_d74 rfl ?_
    refine wt_getr hE (r := 118) wt_lf_md_41 (hD 108 (by decide) (by decide)) wt_L108 rfl wp_md_takesCase_d75 ?_
    refine wt_iload_n hE wp_md_takesCase_d78 rfl ?_
    obtain ⟨g9, h⟩ := wt_gd h
    refine wt_iald hE (hD 118 (by decide) (by decide)) wt_L118 g9 wp_md_takesCase_d79 ?_
    obtain ⟨g10, h⟩ := wt_gd h
    refine wt_iast hE (hD 119 (by decide) (by decide)) wt_L119 g10 wp_md_takesCase_d80 ?_
    refine wt_iinc hE (s.1 + (1 : Int32)) [some (.ref (wt_ad (wt_xw X) 108)), some (.int (s.1 + (1 : Int32)))] wp_md_takesCase_d81 (by decide) rfl rfl rfl ?_
    refine wt_goto hE 64 wp_md_takesCase_d84 rfl ?_
    exact hK64 ((s.1 + (1 : Int32)), (wt_sa s.2 119 (Int32.toNatClampNeg s.1) (wt_ga s.2 118 (Int32.toNatClampNeg s.1)))) h
noncomputable def wp_md_takesCase_B2 (n : Nat) (K2 : Int32 × wt_St → Option (wt_St)) (s : Int32 × wt_St) : Option (wt_St) :=
  if (26 : Int32) ≤ s.1 then
    wt_it (wp_md_takesCase_B64 n) n ((0 : Int32), s.2)
  else
    if s.1 < 0 ∨ 26 ≤ Int32.toNatClampNeg s.1 then none else
    if s.1 < 0 ∨ 26 ≤ Int32.toNatClampNeg s.1 then none else
    if s.1 < 0 ∨ 26 ≤ Int32.toNatClampNeg s.1 then none else
    if s.1 < 0 ∨ 26 ≤ Int32.toNatClampNeg s.1 then none else
    if s.1 < 0 ∨ 26 ≤ Int32.toNatClampNeg s.1 then none else
    if s.1 < 0 ∨ 26 ≤ Int32.toNatClampNeg s.1 then none else
    if s.1 < 0 ∨ 26 ≤ Int32.toNatClampNeg s.1 then none else
    if s.1 < 0 ∨ 26 ≤ Int32.toNatClampNeg s.1 then none else
    K2 ((s.1 + (1 : Int32)), (wt_sa (wt_sa (wt_sa (wt_sa s.2 111 (Int32.toNatClampNeg s.1) (wt_ga s.2 110 (Int32.toNatClampNeg s.1))) 113 (Int32.toNatClampNeg s.1) (wt_ga (wt_sa s.2 111 (Int32.toNatClampNeg s.1) (wt_ga s.2 110 (Int32.toNatClampNeg s.1))) 112 (Int32.toNatClampNeg s.1))) 115 (Int32.toNatClampNeg s.1) (wt_ga (wt_sa (wt_sa s.2 111 (Int32.toNatClampNeg s.1) (wt_ga s.2 110 (Int32.toNatClampNeg s.1))) 113 (Int32.toNatClampNeg s.1) (wt_ga (wt_sa s.2 111 (Int32.toNatClampNeg s.1) (wt_ga s.2 110 (Int32.toNatClampNeg s.1))) 112 (Int32.toNatClampNeg s.1))) 114 (Int32.toNatClampNeg s.1))) 117 (Int32.toNatClampNeg s.1) (wt_ga (wt_sa (wt_sa (wt_sa s.2 111 (Int32.toNatClampNeg s.1) (wt_ga s.2 110 (Int32.toNatClampNeg s.1))) 113 (Int32.toNatClampNeg s.1) (wt_ga (wt_sa s.2 111 (Int32.toNatClampNeg s.1) (wt_ga s.2 110 (Int32.toNatClampNeg s.1))) 112 (Int32.toNatClampNeg s.1))) 115 (Int32.toNatClampNeg s.1) (wt_ga (wt_sa (wt_sa s.2 111 (Int32.toNatClampNeg s.1) (wt_ga s.2 110 (Int32.toNatClampNeg s.1))) 113 (Int32.toNatClampNeg s.1) (wt_ga (wt_sa s.2 111 (Int32.toNatClampNeg s.1) (wt_ga s.2 110 (Int32.toNatClampNeg s.1))) 112 (Int32.toNatClampNeg s.1))) 114 (Int32.toNatClampNeg s.1))) 116 (Int32.toNatClampNeg s.1))))
set_option maxRecDepth 100000 in
set_option maxHeartbeats 4000000 in
theorem wp_md_takesCase_B2_ok  {X : wt_X} {n : Nat} {res : wt_St} (hE : wt_Ok X prog_13_method_19_code 2 "WornTypeModel" 0 0) (hR : wt_Rt X none none res) (hD : ∀ i, 108 ≤ i → i < 321 → wt_dom (wt_xw X) i)  {K2 : Int32 × wt_St → Option (wt_St)} (hK2 : ∀ s : Int32 × wt_St, K2 s = some res → wt_V X 0 s.2 2 [some (.ref (wt_ad (wt_xw X) 108)), some (.int s.1)] []) {s : Int32 × wt_St} (h : wp_md_takesCase_B2 n K2 s = some res) : wt_V X 0 s.2 2 [some (.ref (wt_ad (wt_xw X) 108)), some (.int s.1)] [] := by
  unfold wp_md_takesCase_B2 at h
  refine wt_iload_n hE wp_md_takesCase_d2 rfl ?_
  refine wt_bipush hE (26 : Int32) wp_md_takesCase_d3 wt_cb_26 ?_
  refine wt_icmp_ge hE 62 wp_md_takesCase_d5 rfl (fun c1 => ?_) (fun c1 => ?_)
  · have h := wt_ip c1 h
    refine wt_iconst hE (0 : Int32) wp_md_takesCase_d62 wt_ci_0 ?_
    refine wt_istore_n hE [some (.ref (wt_ad (wt_xw X) 108)), some (.int (0 : Int32))] wp_md_takesCase_d63 (by decide) rfl ?_
    exact wt_it_ind (fun z => wt_V X 0 z.2 64 [some (.ref (wt_ad (wt_xw X) 108)), some (.int z.1)] []) (fun K hK z h => wp_md_takesCase_B64_ok hE hR hD hK h) n ((0 : Int32), s.2) h
  · have h := wt_in c1 h
    refine wt_aload_n hE wp_md_takesCase_d8 rfl ?_
    refine wt_getr hE (r := 111) wt_lf_md_20 (hD 108 (by decide) (by decide)) wt_L108 rfl wp_md_takesCase_d9 ?_
    refine wt_iload_n hE wp_md_takesCase_d12 rfl ?_
    refine wt_aload_n hE wp_md_takesCase_d13 rfl ?_
    refine wt_getr hE (r := 110) wt_lf_md_17 (hD 108 (by decide) (by decide)) wt_L108 rfl wp_md_takesCase_d14 ?_
    refine wt_iload_n hE wp_md_takesCase_d17 rfl ?_
    obtain ⟨g11, h⟩ := wt_gd h
    refine wt_iald hE (hD 110 (by decide) (by decide)) wt_L110 g11 wp_md_takesCase_d18 ?_
    obtain ⟨g12, h⟩ := wt_gd h
    refine wt_iast hE (hD 111 (by decide) (by decide)) wt_L111 g12 wp_md_takesCase_d19 ?_
    refine wt_aload_n hE wp_md_takesCase_d20 rfl ?_
    refine wt_getr hE (r := 113) wt_lf_md_26 (hD 108 (by decide) (by decide)) wt_L108 rfl wp_md_takesCase_d21 ?_
    refine wt_iload_n hE wp_md_takesCase_d24 rfl ?_
    refine wt_aload_n hE wp_md_takesCase_d25 rfl ?_
    refine wt_getr hE (r := 112) wt_lf_md_23 (hD 108 (by decide) (by decide)) wt_L108 rfl wp_md_takesCase_d26 ?_
    refine wt_iload_n hE wp_md_takesCase_d29 rfl ?_
    obtain ⟨g13, h⟩ := wt_gd h
    refine wt_iald hE (hD 112 (by decide) (by decide)) wt_L112 g13 wp_md_takesCase_d30 ?_
    obtain ⟨g14, h⟩ := wt_gd h
    refine wt_iast hE (hD 113 (by decide) (by decide)) wt_L113 g14 wp_md_takesCase_d31 ?_
    refine wt_aload_n hE wp_md_takesCase_d32 rfl ?_
    refine wt_getr hE (r := 115) wt_lf_md_32 (hD 108 (by decide) (by decide)) wt_L108 rfl wp_md_takesCase_d33 ?_
    refine wt_iload_n hE wp_md_takesCase_d36 rfl ?_
    refine wt_aload_n hE wp_md_takesCase_d37 rfl ?_
    refine wt_getr hE (r := 114) wt_lf_md_29 (hD 108 (by decide) (by decide)) wt_L108 rfl wp_md_takesCase_d38 ?_
    refine wt_iload_n hE wp_md_takesCase_d41 rfl ?_
    obtain ⟨g15, h⟩ := wt_gd h
    refine wt_iald hE (hD 114 (by decide) (by decide)) wt_L114 g15 wp_md_takesCase_d42 ?_
    obtain ⟨g16, h⟩ := wt_gd h
    refine wt_iast hE (hD 115 (by decide) (by decide)) wt_L115 g16 wp_md_takesCase_d43 ?_
    refine wt_aload_n hE wp_md_takesCase_d44 rfl ?_
    refine wt_getr hE (r := 117) wt_lf_md_38 (hD 108 (by decide) (by decide)) wt_L108 rfl wp_md_takesCase_d45 ?_
    refine wt_iload_n hE wp_md_takesCase_d48 rfl ?_
    refine wt_aload_n hE wp_md_takesCase_d49 rfl ?_
    refine wt_getr hE (r := 116) wt_lf_md_35 (hD 108 (by decide) (by decide)) wt_L108 rfl wp_md_takesCase_d50 ?_
    refine wt_iload_n hE wp_md_takesCase_d53 rfl ?_
    obtain ⟨g17, h⟩ := wt_gd h
    refine wt_iald hE (hD 116 (by decide) (by decide)) wt_L116 g17 wp_md_takesCase_d54 ?_
    obtain ⟨g18, h⟩ := wt_gd h
    refine wt_iast hE (hD 117 (by decide) (by decide)) wt_L117 g18 wp_md_takesCase_d55 ?_
    refine wt_iinc hE (s.1 + (1 : Int32)) [some (.ref (wt_ad (wt_xw X) 108)), some (.int (s.1 + (1 : Int32)))] wp_md_takesCase_d56 (by decide) rfl rfl rfl ?_
    refine wt_goto hE 2 wp_md_takesCase_d59 rfl ?_
    exact hK2 ((s.1 + (1 : Int32)), (wt_sa (wt_sa (wt_sa (wt_sa s.2 111 (Int32.toNatClampNeg s.1) (wt_ga s.2 110 (Int32.toNatClampNeg s.1))) 113 (Int32.toNatClampNeg s.1) (wt_ga (wt_sa s.2 111 (Int32.toNatClampNeg s.1) (wt_ga s.2 110 (Int32.toNatClampNeg s.1))) 112 (Int32.toNatClampNeg s.1))) 115 (Int32.toNatClampNeg s.1) (wt_ga (wt_sa (wt_sa s.2 111 (Int32.toNatClampNeg s.1) (wt_ga s.2 110 (Int32.toNatClampNeg s.1))) 113 (Int32.toNatClampNeg s.1) (wt_ga (wt_sa s.2 111 (Int32.toNatClampNeg s.1) (wt_ga s.2 110 (Int32.toNatClampNeg s.1))) 112 (Int32.toNatClampNeg s.1))) 114 (Int32.toNatClampNeg s.1))) 117 (Int32.toNatClampNeg s.1) (wt_ga (wt_sa (wt_sa (wt_sa s.2 111 (Int32.toNatClampNeg s.1) (wt_ga s.2 110 (Int32.toNatClampNeg s.1))) 113 (Int32.toNatClampNeg s.1) (wt_ga (wt_sa s.2 111 (Int32.toNatClampNeg s.1) (wt_ga s.2 110 (Int32.toNatClampNeg s.1))) 112 (Int32.toNatClampNeg s.1))) 115 (Int32.toNatClampNeg s.1) (wt_ga (wt_sa (wt_sa s.2 111 (Int32.toNatClampNeg s.1) (wt_ga s.2 110 (Int32.toNatClampNeg s.1))) 113 (Int32.toNatClampNeg s.1) (wt_ga (wt_sa s.2 111 (Int32.toNatClampNeg s.1) (wt_ga s.2 110 (Int32.toNatClampNeg s.1))) 112 (Int32.toNatClampNeg s.1))) 114 (Int32.toNatClampNeg s.1))) 116 (Int32.toNatClampNeg s.1)))) h
noncomputable def wp_md_takesCase (n : Nat) (σ : wt_St) : Option (wt_St) :=
  wt_it (wp_md_takesCase_B2 n) n ((0 : Int32), σ)
set_option maxRecDepth 100000 in
set_option maxHeartbeats 4000000 in
theorem wp_md_takesCase_ok {l : Launch} {w : wt_E} {n : Nat} (hD : ∀ i, 108 ≤ i → i < 321 → wt_dom w i) {σ : wt_St} {q : wt_St} (h : wp_md_takesCase n σ = some q) : wt_Ctr l w wt_y_md_takesCase prog_13_method_19_code 2 none 0 [.ref (wt_ad w 108)] σ none q := by
  refine wt_ctr wt_pl_md_takesCase rfl (Nat.le_of_ble_eq_true rfl) [some (.ref (wt_ad w 108)), none] rfl ?_
  intro X hXl hXw hE hR
  subst hXl
  subst hXw
  have hE : wt_Ok X prog_13_method_19_code 2 "WornTypeModel" 0 0 := hE
  unfold wp_md_takesCase at h
  refine wt_iconst hE (0 : Int32) wp_md_takesCase_d0 wt_ci_0 ?_
  refine wt_istore_n hE [some (.ref (wt_ad (wt_xw X) 108)), some (.int (0 : Int32))] wp_md_takesCase_d1 (by decide) rfl ?_
  exact wt_it_ind (fun z => wt_V X 0 z.2 2 [some (.ref (wt_ad (wt_xw X) 108)), some (.int z.1)] []) (fun K hK z h => wp_md_takesCase_B2_ok hE hR hD hK h) n ((0 : Int32), σ) h
def wb17m7_prog_13_method_24_code_r4 : List (List Nat) := [42, 3, 181, 0, 240, 42, 182, 0, 243, 172] :: []
def wb17m7_prog_13_method_24_code_r3 : List (List Nat) := [16, 10, 100, 172, 42, 182, 0, 148, 3, 61, 28, 7, 162, 0, 16, 42, 180, 0, 100, 28, 2, 79, 132, 2, 1, 167, 255, 241] :: wb17m7_prog_13_method_24_code_r4
def wb17m7_prog_13_method_24_code_r2 : List (List Nat) := [42, 182, 0, 237, 42, 182, 0, 173, 167, 255, 230, 42, 42, 180, 0, 170, 181, 0, 9, 42, 180, 0, 167, 153, 0, 11, 42, 180, 0, 167] :: wb17m7_prog_13_method_24_code_r3
def wb17m7_prog_13_method_24_code_r1 : List (List Nat) := [3, 172, 42, 27, 182, 0, 234, 42, 182, 0, 145, 42, 180, 0, 167, 154, 0, 25, 42, 180, 0, 160, 42, 180, 0, 157, 162, 0, 14] :: wb17m7_prog_13_method_24_code_r2
def wb17m7_prog_13_method_24_code_r0 : List (List Nat) := [42, 3, 181, 0, 151, 42, 27, 3, 42, 180, 0, 154, 184, 0, 185, 154, 0, 7, 4, 167, 0, 4, 3, 4, 182, 0, 230, 153, 0, 5] :: wb17m7_prog_13_method_24_code_r1
set_option maxRecDepth 100000 in
theorem wb17m7_prog_13_method_24_code_c0 : wt_cs prog_13_method_24_code 0 wb17m7_prog_13_method_24_code_r0 := wt_cs_of (by decide +kernel)
theorem wb17m7_prog_13_method_24_code_c1 : wt_cs prog_13_method_24_code 30 wb17m7_prog_13_method_24_code_r1 := wt_cs_tl (m := 30) wb17m7_prog_13_method_24_code_c0 rfl rfl
theorem wb17m7_prog_13_method_24_code_c2 : wt_cs prog_13_method_24_code 59 wb17m7_prog_13_method_24_code_r2 := wt_cs_tl (m := 29) wb17m7_prog_13_method_24_code_c1 rfl rfl
theorem wb17m7_prog_13_method_24_code_c3 : wt_cs prog_13_method_24_code 89 wb17m7_prog_13_method_24_code_r3 := wt_cs_tl (m := 30) wb17m7_prog_13_method_24_code_c2 rfl rfl
theorem wb17m7_prog_13_method_24_code_c4 : wt_cs prog_13_method_24_code 117 wb17m7_prog_13_method_24_code_r4 := wt_cs_tl (m := 28) wb17m7_prog_13_method_24_code_c3 rfl rfl
theorem wp_md_kase_d0 : decode prog_13_method_24_code 0 = .ok (.aload_n 0, 1) := wt_op42 wb17m7_prog_13_method_24_code_c0 0 rfl rfl
theorem wp_md_kase_d1 : decode prog_13_method_24_code 1 = .ok (.iconst 0, 1) := wt_op3 wb17m7_prog_13_method_24_code_c0 1 rfl rfl
theorem wp_md_kase_d2 : decode prog_13_method_24_code 2 = .ok (.putfield 151, 3) := wt_op181 wb17m7_prog_13_method_24_code_c0 2 rfl rfl rfl
theorem wp_md_kase_d5 : decode prog_13_method_24_code 5 = .ok (.aload_n 0, 1) := wt_op42 wb17m7_prog_13_method_24_code_c0 5 rfl rfl
theorem wp_md_kase_d6 : decode prog_13_method_24_code 6 = .ok (.iload_n 1, 1) := wt_op27 wb17m7_prog_13_method_24_code_c0 6 rfl rfl
theorem wp_md_kase_d7 : decode prog_13_method_24_code 7 = .ok (.iconst 0, 1) := wt_op3 wb17m7_prog_13_method_24_code_c0 7 rfl rfl
theorem wp_md_kase_d8 : decode prog_13_method_24_code 8 = .ok (.aload_n 0, 1) := wt_op42 wb17m7_prog_13_method_24_code_c0 8 rfl rfl
theorem wp_md_kase_d9 : decode prog_13_method_24_code 9 = .ok (.getfield 154, 3) := wt_op180 wb17m7_prog_13_method_24_code_c0 9 rfl rfl rfl
theorem wp_md_kase_d12 : decode prog_13_method_24_code 12 = .ok (.invokestatic 185, 3) := wt_op184 wb17m7_prog_13_method_24_code_c0 12 rfl rfl rfl
theorem wp_md_kase_d15 : decode prog_13_method_24_code 15 = .ok (.ifCond .ne 7, 3) := wt_op154 wb17m7_prog_13_method_24_code_c0 15 rfl rfl rfl
theorem wp_md_kase_d18 : decode prog_13_method_24_code 18 = .ok (.iconst 1, 1) := wt_op4 wb17m7_prog_13_method_24_code_c0 18 rfl rfl
theorem wp_md_kase_d19 : decode prog_13_method_24_code 19 = .ok (.goto 4, 3) := wt_op167 wb17m7_prog_13_method_24_code_c0 19 rfl rfl rfl
theorem wp_md_kase_d22 : decode prog_13_method_24_code 22 = .ok (.iconst 0, 1) := wt_op3 wb17m7_prog_13_method_24_code_c0 22 rfl rfl
theorem wp_md_kase_d23 : decode prog_13_method_24_code 23 = .ok (.iconst 1, 1) := wt_op4 wb17m7_prog_13_method_24_code_c0 23 rfl rfl
theorem wp_md_kase_d24 : decode prog_13_method_24_code 24 = .ok (.invokevirtual 230, 3) := wt_op182 wb17m7_prog_13_method_24_code_c0 24 rfl rfl rfl
theorem wp_md_kase_d27 : decode prog_13_method_24_code 27 = .ok (.ifCond .eq 5, 3) := wt_op153 wb17m7_prog_13_method_24_code_c0 27 rfl rfl rfl
theorem wp_md_kase_d30 : decode prog_13_method_24_code 30 = .ok (.iconst 0, 1) := wt_op3 wb17m7_prog_13_method_24_code_c1 0 rfl rfl
theorem wp_md_kase_d31 : decode prog_13_method_24_code 31 = .ok (.ireturn, 1) := wt_op172 wb17m7_prog_13_method_24_code_c1 1 rfl rfl
theorem wp_md_kase_d32 : decode prog_13_method_24_code 32 = .ok (.aload_n 0, 1) := wt_op42 wb17m7_prog_13_method_24_code_c1 2 rfl rfl
theorem wp_md_kase_d33 : decode prog_13_method_24_code 33 = .ok (.iload_n 1, 1) := wt_op27 wb17m7_prog_13_method_24_code_c1 3 rfl rfl
theorem wp_md_kase_d34 : decode prog_13_method_24_code 34 = .ok (.invokevirtual 234, 3) := wt_op182 wb17m7_prog_13_method_24_code_c1 4 rfl rfl rfl
theorem wp_md_kase_d37 : decode prog_13_method_24_code 37 = .ok (.aload_n 0, 1) := wt_op42 wb17m7_prog_13_method_24_code_c1 7 rfl rfl
theorem wp_md_kase_d38 : decode prog_13_method_24_code 38 = .ok (.invokevirtual 145, 3) := wt_op182 wb17m7_prog_13_method_24_code_c1 8 rfl rfl rfl
theorem wp_md_kase_d41 : decode prog_13_method_24_code 41 = .ok (.aload_n 0, 1) := wt_op42 wb17m7_prog_13_method_24_code_c1 11 rfl rfl
theorem wp_md_kase_d42 : decode prog_13_method_24_code 42 = .ok (.getfield 167, 3) := wt_op180 wb17m7_prog_13_method_24_code_c1 12 rfl rfl rfl
theorem wp_md_kase_d45 : decode prog_13_method_24_code 45 = .ok (.ifCond .ne 25, 3) := wt_op154 wb17m7_prog_13_method_24_code_c1 15 rfl rfl rfl
theorem wp_md_kase_d48 : decode prog_13_method_24_code 48 = .ok (.aload_n 0, 1) := wt_op42 wb17m7_prog_13_method_24_code_c1 18 rfl rfl
theorem wp_md_kase_d49 : decode prog_13_method_24_code 49 = .ok (.getfield 160, 3) := wt_op180 wb17m7_prog_13_method_24_code_c1 19 rfl rfl rfl
theorem wp_md_kase_d52 : decode prog_13_method_24_code 52 = .ok (.aload_n 0, 1) := wt_op42 wb17m7_prog_13_method_24_code_c1 22 rfl rfl
theorem wp_md_kase_d53 : decode prog_13_method_24_code 53 = .ok (.getfield 157, 3) := wt_op180 wb17m7_prog_13_method_24_code_c1 23 rfl rfl rfl
theorem wp_md_kase_d56 : decode prog_13_method_24_code 56 = .ok (.if_icmp .ge 14, 3) := wt_op162 wb17m7_prog_13_method_24_code_c1 26 rfl rfl rfl
theorem wp_md_kase_d59 : decode prog_13_method_24_code 59 = .ok (.aload_n 0, 1) := wt_op42 wb17m7_prog_13_method_24_code_c2 0 rfl rfl
theorem wp_md_kase_d60 : decode prog_13_method_24_code 60 = .ok (.invokevirtual 237, 3) := wt_op182 wb17m7_prog_13_method_24_code_c2 1 rfl rfl rfl
theorem wp_md_kase_d63 : decode prog_13_method_24_code 63 = .ok (.aload_n 0, 1) := wt_op42 wb17m7_prog_13_method_24_code_c2 4 rfl rfl
theorem wp_md_kase_d64 : decode prog_13_method_24_code 64 = .ok (.invokevirtual 173, 3) := wt_op182 wb17m7_prog_13_method_24_code_c2 5 rfl rfl rfl
theorem wp_md_kase_d67 : decode prog_13_method_24_code 67 = .ok (.goto (-26), 3) := wt_op167 wb17m7_prog_13_method_24_code_c2 8 rfl rfl rfl
theorem wp_md_kase_d70 : decode prog_13_method_24_code 70 = .ok (.aload_n 0, 1) := wt_op42 wb17m7_prog_13_method_24_code_c2 11 rfl rfl
theorem wp_md_kase_d71 : decode prog_13_method_24_code 71 = .ok (.aload_n 0, 1) := wt_op42 wb17m7_prog_13_method_24_code_c2 12 rfl rfl
theorem wp_md_kase_d72 : decode prog_13_method_24_code 72 = .ok (.getfield 170, 3) := wt_op180 wb17m7_prog_13_method_24_code_c2 13 rfl rfl rfl
theorem wp_md_kase_d75 : decode prog_13_method_24_code 75 = .ok (.putfield 9, 3) := wt_op181 wb17m7_prog_13_method_24_code_c2 16 rfl rfl rfl
theorem wp_md_kase_d78 : decode prog_13_method_24_code 78 = .ok (.aload_n 0, 1) := wt_op42 wb17m7_prog_13_method_24_code_c2 19 rfl rfl
theorem wp_md_kase_d79 : decode prog_13_method_24_code 79 = .ok (.getfield 167, 3) := wt_op180 wb17m7_prog_13_method_24_code_c2 20 rfl rfl rfl
theorem wp_md_kase_d82 : decode prog_13_method_24_code 82 = .ok (.ifCond .eq 11, 3) := wt_op153 wb17m7_prog_13_method_24_code_c2 23 rfl rfl rfl
theorem wp_md_kase_d85 : decode prog_13_method_24_code 85 = .ok (.aload_n 0, 1) := wt_op42 wb17m7_prog_13_method_24_code_c2 26 rfl rfl
theorem wp_md_kase_d86 : decode prog_13_method_24_code 86 = .ok (.getfield 167, 3) := wt_op180 wb17m7_prog_13_method_24_code_c2 27 rfl rfl rfl
theorem wp_md_kase_d89 : decode prog_13_method_24_code 89 = .ok (.bipush 10, 2) := wt_op16 wb17m7_prog_13_method_24_code_c3 0 rfl rfl rfl
theorem wp_md_kase_d91 : decode prog_13_method_24_code 91 = .ok (.isub, 1) := wt_op100 wb17m7_prog_13_method_24_code_c3 2 rfl rfl
theorem wp_md_kase_d92 : decode prog_13_method_24_code 92 = .ok (.ireturn, 1) := wt_op172 wb17m7_prog_13_method_24_code_c3 3 rfl rfl
theorem wp_md_kase_d93 : decode prog_13_method_24_code 93 = .ok (.aload_n 0, 1) := wt_op42 wb17m7_prog_13_method_24_code_c3 4 rfl rfl
theorem wp_md_kase_d94 : decode prog_13_method_24_code 94 = .ok (.invokevirtual 148, 3) := wt_op182 wb17m7_prog_13_method_24_code_c3 5 rfl rfl rfl
theorem wp_md_kase_d97 : decode prog_13_method_24_code 97 = .ok (.iconst 0, 1) := wt_op3 wb17m7_prog_13_method_24_code_c3 8 rfl rfl
theorem wp_md_kase_d98 : decode prog_13_method_24_code 98 = .ok (.istore_n 2, 1) := wt_op61 wb17m7_prog_13_method_24_code_c3 9 rfl rfl
theorem wp_md_kase_d99 : decode prog_13_method_24_code 99 = .ok (.iload_n 2, 1) := wt_op28 wb17m7_prog_13_method_24_code_c3 10 rfl rfl
theorem wp_md_kase_d100 : decode prog_13_method_24_code 100 = .ok (.iconst 4, 1) := wt_op7 wb17m7_prog_13_method_24_code_c3 11 rfl rfl
theorem wp_md_kase_d101 : decode prog_13_method_24_code 101 = .ok (.if_icmp .ge 16, 3) := wt_op162 wb17m7_prog_13_method_24_code_c3 12 rfl rfl rfl
theorem wp_md_kase_d104 : decode prog_13_method_24_code 104 = .ok (.aload_n 0, 1) := wt_op42 wb17m7_prog_13_method_24_code_c3 15 rfl rfl
theorem wp_md_kase_d105 : decode prog_13_method_24_code 105 = .ok (.getfield 100, 3) := wt_op180 wb17m7_prog_13_method_24_code_c3 16 rfl rfl rfl
theorem wp_md_kase_d108 : decode prog_13_method_24_code 108 = .ok (.iload_n 2, 1) := wt_op28 wb17m7_prog_13_method_24_code_c3 19 rfl rfl
theorem wp_md_kase_d109 : decode prog_13_method_24_code 109 = .ok (.iconst (-1), 1) := wt_op2 wb17m7_prog_13_method_24_code_c3 20 rfl rfl
theorem wp_md_kase_d110 : decode prog_13_method_24_code 110 = .ok (.iastore, 1) := wt_op79 wb17m7_prog_13_method_24_code_c3 21 rfl rfl
theorem wp_md_kase_d111 : decode prog_13_method_24_code 111 = .ok (.iinc 2 1, 3) := wt_op132 wb17m7_prog_13_method_24_code_c3 22 rfl rfl rfl
theorem wp_md_kase_d114 : decode prog_13_method_24_code 114 = .ok (.goto (-15), 3) := wt_op167 wb17m7_prog_13_method_24_code_c3 25 rfl rfl rfl
theorem wp_md_kase_d117 : decode prog_13_method_24_code 117 = .ok (.aload_n 0, 1) := wt_op42 wb17m7_prog_13_method_24_code_c4 0 rfl rfl
theorem wp_md_kase_d118 : decode prog_13_method_24_code 118 = .ok (.iconst 0, 1) := wt_op3 wb17m7_prog_13_method_24_code_c4 1 rfl rfl
theorem wp_md_kase_d119 : decode prog_13_method_24_code 119 = .ok (.putfield 240, 3) := wt_op181 wb17m7_prog_13_method_24_code_c4 2 rfl rfl rfl
theorem wp_md_kase_d122 : decode prog_13_method_24_code 122 = .ok (.aload_n 0, 1) := wt_op42 wb17m7_prog_13_method_24_code_c4 5 rfl rfl
theorem wp_md_kase_d123 : decode prog_13_method_24_code 123 = .ok (.invokevirtual 243, 3) := wt_op182 wb17m7_prog_13_method_24_code_c4 6 rfl rfl rfl
theorem wp_md_kase_d126 : decode prog_13_method_24_code 126 = .ok (.ireturn, 1) := wt_op172 wb17m7_prog_13_method_24_code_c4 9 rfl rfl
noncomputable def wp_md_kase_B99 (n : Nat) (K99 : Int32 × wt_St → Option (Int32 × wt_St)) (s : Int32 × wt_St) : Option (Int32 × wt_St) :=
  if (4 : Int32) ≤ s.1 then
    (wp_md_allPieces n (wt_sf s.2 108 41 (0 : Int32))).bind fun q11 =>
    some (q11.1, q11.2)
  else
    if s.1 < 0 ∨ 4 ≤ Int32.toNatClampNeg s.1 then none else
    K99 ((s.1 + (1 : Int32)), (wt_sa s.2 275 (Int32.toNatClampNeg s.1) (-1 : Int32)))
set_option maxRecDepth 100000 in
set_option maxHeartbeats 4000000 in
theorem wp_md_kase_B99_ok  {X : wt_X} {n : Nat} {res : Int32 × wt_St} (hE : wt_Ok X prog_13_method_24_code 3 "WornTypeModel" 6 0) (hR : wt_Rt X (some .int) (some res.1) res.2) (hD : ∀ i, 108 ≤ i → i < 321 → wt_dom (wt_xw X) i)  {K99 : Int32 × wt_St → Option (Int32 × wt_St)} (hK99 : ∀ s : Int32 × wt_St, K99 s = some res → wt_V X 0 s.2 99 [some (.ref (wt_ad (wt_xw X) 108)), none, some (.int s.1)] []) {s : Int32 × wt_St} (h : wp_md_kase_B99 n K99 s = some res) : wt_V X 0 s.2 99 [some (.ref (wt_ad (wt_xw X) 108)), none, some (.int s.1)] [] := by
  unfold wp_md_kase_B99 at h
  refine wt_iload_n hE wp_md_kase_d99 rfl ?_
  refine wt_iconst hE (4 : Int32) wp_md_kase_d100 wt_ci_4 ?_
  refine wt_icmp_ge hE 117 wp_md_kase_d101 rfl (fun c10 => ?_) (fun c10 => ?_)
  · have h := wt_ip c10 h
    refine wt_aload_n hE wp_md_kase_d117 rfl ?_
    refine wt_iconst hE (0 : Int32) wp_md_kase_d118 wt_ci_0 ?_
    refine wt_puti hE wt_lf_md_240 (hD 108 (by decide) (by decide)) wt_L108 rfl (fun q hq => by cases hq; rfl) wp_md_kase_d119 ?_
    refine wt_aload_n hE wp_md_kase_d122 rfl ?_
    obtain ⟨q11, hq11, h⟩ := wt_bi h
    refine wt_callVi hE [] wt_lm_md_243 wt_ya_md_allPieces (wp_md_allPieces_ok hD hq11) (by omega) (hD 108 (by decide) (by decide)) wt_L108 rfl rfl rfl (Nat.le_of_ble_eq_true rfl) (Nat.zero_le _) wp_md_kase_d123 (fun hbq11 => ?_)
    cases h
    exact wt_iret hE hR wp_md_kase_d126
  · have h := wt_in c10 h
    refine wt_aload_n hE wp_md_kase_d104 rfl ?_
    refine wt_getr hE (r := 275) wt_lf_md_100 (hD 108 (by decide) (by decide)) wt_L108 rfl wp_md_kase_d105 ?_
    refine wt_iload_n hE wp_md_kase_d108 rfl ?_
    refine wt_iconst hE (-1 : Int32) wp_md_kase_d109 wt_ci_m1 ?_
    obtain ⟨g12, h⟩ := wt_gd h
    refine wt_iast hE (hD 275 (by decide) (by decide)) wt_L275 g12 wp_md_kase_d110 ?_
    refine wt_iinc hE (s.1 + (1 : Int32)) [some (.ref (wt_ad (wt_xw X) 108)), none, some (.int (s.1 + (1 : Int32)))] wp_md_kase_d111 (by decide) rfl rfl rfl ?_
    refine wt_goto hE 99 wp_md_kase_d114 rfl ?_
    exact hK99 ((s.1 + (1 : Int32)), (wt_sa s.2 275 (Int32.toNatClampNeg s.1) (-1 : Int32))) h
noncomputable def wp_md_kase_B70 (n : Nat) (σ : wt_St) : Option (Int32 × wt_St) :=
  if (wt_gf (wt_sf σ 108 3 (wt_gf σ 108 6)) 108 5) = 0 then
    (wp_md_takesCase n (wt_sf σ 108 3 (wt_gf σ 108 6))).bind fun q9 =>
    wt_it (wp_md_kase_B99 n) n ((0 : Int32), q9)
  else
    some (((wt_gf (wt_sf σ 108 3 (wt_gf σ 108 6)) 108 5) - (10 : Int32)), (wt_sf σ 108 3 (wt_gf σ 108 6)))
set_option maxRecDepth 100000 in
set_option maxHeartbeats 4000000 in
theorem wp_md_kase_B70_ok  {X : wt_X} {n : Nat} {res : Int32 × wt_St} (hE : wt_Ok X prog_13_method_24_code 3 "WornTypeModel" 6 0) (hR : wt_Rt X (some .int) (some res.1) res.2) (hD : ∀ i, 108 ≤ i → i < 321 → wt_dom (wt_xw X) i)  {σ : wt_St} (h : wp_md_kase_B70 n σ = some res) : wt_V X 0 σ 70 [some (.ref (wt_ad (wt_xw X) 108)), none, none] [] := by
  unfold wp_md_kase_B70 at h
  refine wt_aload_n hE wp_md_kase_d70 rfl ?_
  refine wt_aload_n hE wp_md_kase_d71 rfl ?_
  refine wt_geti hE wt_lf_md_170 (hD 108 (by decide) (by decide)) wt_L108 rfl wp_md_kase_d72 ?_
  refine wt_puti hE wt_lf_md_9 (hD 108 (by decide) (by decide)) wt_L108 rfl (fun q hq => by cases hq; rfl) wp_md_kase_d75 ?_
  refine wt_aload_n hE wp_md_kase_d78 rfl ?_
  refine wt_geti hE wt_lf_md_167 (hD 108 (by decide) (by decide)) wt_L108 rfl wp_md_kase_d79 ?_
  refine wt_if_eq hE 93 wp_md_kase_d82 rfl (fun c8 => ?_) (fun c8 => ?_)
  · have h := wt_ip c8 h
    refine wt_aload_n hE wp_md_kase_d93 rfl ?_
    obtain ⟨q9, hq9, h⟩ := wt_bi h
    refine wt_callVv hE [] wt_lm_md_148 wt_ya_md_takesCase (wp_md_takesCase_ok hD hq9) (by omega) (hD 108 (by decide) (by decide)) wt_L108 rfl rfl rfl (Nat.le_of_ble_eq_true rfl) (Nat.zero_le _) wp_md_kase_d94 ?_
    refine wt_iconst hE (0 : Int32) wp_md_kase_d97 wt_ci_0 ?_
    refine wt_istore_n hE [some (.ref (wt_ad (wt_xw X) 108)), none, some (.int (0 : Int32))] wp_md_kase_d98 (by decide) rfl ?_
    exact wt_it_ind (fun z => wt_V X 0 z.2 99 [some (.ref (wt_ad (wt_xw X) 108)), none, some (.int z.1)] []) (fun K hK z h => wp_md_kase_B99_ok hE hR hD hK h) n ((0 : Int32), q9) h
  · have h := wt_in c8 h
    refine wt_aload_n hE wp_md_kase_d85 rfl ?_
    refine wt_geti hE wt_lf_md_167 (hD 108 (by decide) (by decide)) wt_L108 rfl wp_md_kase_d86 ?_
    refine wt_bipush hE (10 : Int32) wp_md_kase_d89 wt_cb_10 ?_
    refine wt_isub hE wp_md_kase_d91 ?_
    cases h
    exact wt_iret hE hR wp_md_kase_d92
noncomputable def wp_md_kase_B41 (n : Nat) (K41 : wt_St → Option (Int32 × wt_St)) (s : wt_St) : Option (Int32 × wt_St) :=
  if (wt_gf s 108 5) = 0 then
    if (wt_gf s 108 2) ≤ (wt_gf s 108 4) then
      wp_md_kase_B70 n s
    else
      (wp_md_clause n s).bind fun q14 =>
      (wp_md_blanks n q14).bind fun q15 =>
      K41 q15
  else
    wp_md_kase_B70 n s
set_option maxRecDepth 100000 in
set_option maxHeartbeats 4000000 in
theorem wp_md_kase_B41_ok  {X : wt_X} {n : Nat} {res : Int32 × wt_St} (hE : wt_Ok X prog_13_method_24_code 3 "WornTypeModel" 6 0) (hR : wt_Rt X (some .int) (some res.1) res.2) (hD : ∀ i, 108 ≤ i → i < 321 → wt_dom (wt_xw X) i)  {K41 : wt_St → Option (Int32 × wt_St)} (hK41 : ∀ s : wt_St, K41 s = some res → wt_V X 0 s 41 [some (.ref (wt_ad (wt_xw X) 108)), none, none] []) {s : wt_St} (h : wp_md_kase_B41 n K41 s = some res) : wt_V X 0 s 41 [some (.ref (wt_ad (wt_xw X) 108)), none, none] [] := by
  unfold wp_md_kase_B41 at h
  refine wt_aload_n hE wp_md_kase_d41 rfl ?_
  refine wt_geti hE wt_lf_md_167 (hD 108 (by decide) (by decide)) wt_L108 rfl wp_md_kase_d42 ?_
  refine wt_if_ne hE 70 wp_md_kase_d45 rfl (fun c7 => ?_) (fun c7 => ?_)
  · have h := wt_in c7 h
    exact wp_md_kase_B70_ok hE hR hD h
  · have h := wt_ip c7 h
    refine wt_aload_n hE wp_md_kase_d48 rfl ?_
    refine wt_geti hE wt_lf_md_160 (hD 108 (by decide) (by decide)) wt_L108 rfl wp_md_kase_d49 ?_
    refine wt_aload_n hE wp_md_kase_d52 rfl ?_
    refine wt_geti hE wt_lf_md_157 (hD 108 (by decide) (by decide)) wt_L108 rfl wp_md_kase_d53 ?_
    refine wt_icmp_ge hE 70 wp_md_kase_d56 rfl (fun c13 => ?_) (fun c13 => ?_)
    · have h := wt_ip c13 h
      exact wp_md_kase_B70_ok hE hR hD h
    · have h := wt_in c13 h
      refine wt_aload_n hE wp_md_kase_d59 rfl ?_
      obtain ⟨q14, hq14, h⟩ := wt_bi h
      refine wt_callVv hE [] wt_lm_md_237 wt_ya_md_clause (wp_md_clause_ok hD hq14) (by omega) (hD 108 (by decide) (by decide)) wt_L108 rfl rfl rfl (Nat.le_of_ble_eq_true rfl) (Nat.zero_le _) wp_md_kase_d60 ?_
      refine wt_aload_n hE wp_md_kase_d63 rfl ?_
      obtain ⟨q15, hq15, h⟩ := wt_bi h
      refine wt_callVv hE [] wt_lm_md_173 wt_ya_md_blanks (wp_md_blanks_ok hD hq15) (by omega) (hD 108 (by decide) (by decide)) wt_L108 rfl rfl rfl (Nat.le_of_ble_eq_true rfl) (Nat.zero_le _) wp_md_kase_d64 ?_
      refine wt_goto hE 41 wp_md_kase_d67 rfl ?_
      exact hK41 q15 h
noncomputable def wp_md_kase_B23 (n : Nat) (x1 : Int32) (y1 : Int32) (σ : wt_St) : Option (Int32 × wt_St) :=
  (wp_md_bad n y1 (1 : Int32) σ).bind fun q3 =>
  if q3.1 = 0 then
    (wp_md_starts n x1 q3.2).bind fun q5 =>
    (wp_md_clearsCase n q5).bind fun q6 =>
    wt_it (wp_md_kase_B41 n) n q6
  else
    some ((0 : Int32), q3.2)
set_option maxRecDepth 100000 in
set_option maxHeartbeats 4000000 in
theorem wp_md_kase_B23_ok  {x1 : Int32} {X : wt_X} {n : Nat} {res : Int32 × wt_St} (hE : wt_Ok X prog_13_method_24_code 3 "WornTypeModel" 6 0) (hR : wt_Rt X (some .int) (some res.1) res.2) (hD : ∀ i, 108 ≤ i → i < 321 → wt_dom (wt_xw X) i)  {σ : wt_St} {y1 : Int32} (h : wp_md_kase_B23 n x1 y1 σ = some res) : wt_V X 0 σ 23 [some (.ref (wt_ad (wt_xw X) 108)), some (.int x1), none] [.int y1, .ref (wt_ad (wt_xw X) 108)] := by
  unfold wp_md_kase_B23 at h
  refine wt_iconst hE (1 : Int32) wp_md_kase_d23 wt_ci_1 ?_
  obtain ⟨q3, hq3, h⟩ := wt_bi h
  refine wt_callVi hE [.int y1, .int (1 : Int32)] wt_lm_md_230 wt_ya_md_bad (wp_md_bad_ok hD hq3) (by omega) (hD 108 (by decide) (by decide)) wt_L108 rfl rfl rfl (Nat.le_of_ble_eq_true rfl) (Nat.zero_le _) wp_md_kase_d24 (fun hbq3 => ?_)
  refine wt_if_eq hE 32 wp_md_kase_d27 rfl (fun c4 => ?_) (fun c4 => ?_)
  · have h := wt_ip c4 h
    refine wt_aload_n hE wp_md_kase_d32 rfl ?_
    refine wt_iload_n hE wp_md_kase_d33 rfl ?_
    obtain ⟨q5, hq5, h⟩ := wt_bi h
    refine wt_callVv hE [.int x1] wt_lm_md_234 wt_ya_md_starts (wp_md_starts_ok hD hq5) (by omega) (hD 108 (by decide) (by decide)) wt_L108 rfl rfl rfl (Nat.le_of_ble_eq_true rfl) (Nat.zero_le _) wp_md_kase_d34 ?_
    refine wt_aload_n hE wp_md_kase_d37 rfl ?_
    obtain ⟨q6, hq6, h⟩ := wt_bi h
    refine wt_callVv hE [] wt_lm_md_145 wt_ya_md_clearsCase (wp_md_clearsCase_ok hD hq6) (by omega) (hD 108 (by decide) (by decide)) wt_L108 rfl rfl rfl (Nat.le_of_ble_eq_true rfl) (Nat.zero_le _) wp_md_kase_d38 ?_
    refine wt_wk [true, false, true] rfl ?_
    exact wt_it_ind (fun z => wt_V X 0 z 41 [some (.ref (wt_ad (wt_xw X) 108)), none, none] []) (fun K hK z h => wp_md_kase_B41_ok hE hR hD hK h) n q6 h
  · have h := wt_in c4 h
    refine wt_iconst hE (0 : Int32) wp_md_kase_d30 wt_ci_0 ?_
    cases h
    exact wt_iret hE hR wp_md_kase_d31
noncomputable def wp_md_kase (n : Nat) (x1 : Int32) (σ : wt_St) : Option (Int32 × wt_St) :=
  (wp_md_in n x1 (0 : Int32) (wt_gf (wt_sf σ 108 0 (0 : Int32)) 108 1) (wt_sf σ 108 0 (0 : Int32))).bind fun q1 =>
  if q1.1 = 0 then
    wp_md_kase_B23 n x1 (1 : Int32) q1.2
  else
    wp_md_kase_B23 n x1 (0 : Int32) q1.2
set_option maxRecDepth 100000 in
set_option maxHeartbeats 4000000 in
theorem wp_md_kase_ok {l : Launch} {w : wt_E} {n : Nat} {x1 : Int32} (hD : ∀ i, 108 ≤ i → i < 321 → wt_dom w i) {σ : wt_St} {q : Int32 × wt_St} (h : wp_md_kase n x1 σ = some q) : wt_Ctr l w wt_y_md_kase prog_13_method_24_code 3 (some .int) 6 [.ref (wt_ad w 108), .int x1] σ (some q.1) q.2 := by
  refine wt_ctr wt_pl_md_kase rfl (Nat.le_of_ble_eq_true rfl) [some (.ref (wt_ad w 108)), some (.int x1), none] rfl ?_
  intro X hXl hXw hE hR
  subst hXl
  subst hXw
  have hE : wt_Ok X prog_13_method_24_code 3 "WornTypeModel" 6 0 := hE
  unfold wp_md_kase at h
  refine wt_aload_n hE wp_md_kase_d0 rfl ?_
  refine wt_iconst hE (0 : Int32) wp_md_kase_d1 wt_ci_0 ?_
  refine wt_puti hE wt_lf_md_151 (hD 108 (by decide) (by decide)) wt_L108 rfl (fun q hq => by cases hq; rfl) wp_md_kase_d2 ?_
  refine wt_aload_n hE wp_md_kase_d5 rfl ?_
  refine wt_iload_n hE wp_md_kase_d6 rfl ?_
  refine wt_iconst hE (0 : Int32) wp_md_kase_d7 wt_ci_0 ?_
  refine wt_aload_n hE wp_md_kase_d8 rfl ?_
  refine wt_geti hE wt_lf_md_154 (hD 108 (by decide) (by decide)) wt_L108 rfl wp_md_kase_d9 ?_
  obtain ⟨q1, hq1, h⟩ := wt_bi h
  refine wt_callSi hE [.int x1, .int (0 : Int32), .int (wt_gf (wt_sf σ 108 0 (0 : Int32)) 108 1)] wt_lm_md_185 wt_ya_md_in (wp_md_in_ok hq1) (by omega) rfl rfl (Nat.le_of_ble_eq_true rfl) (Nat.zero_le _) wp_md_kase_d12 (fun hbq1 => ?_)
  refine wt_if_ne hE 22 wp_md_kase_d15 rfl (fun c2 => ?_) (fun c2 => ?_)
  · have h := wt_in c2 h
    refine wt_iconst hE (0 : Int32) wp_md_kase_d22 wt_ci_0 ?_
    exact wp_md_kase_B23_ok hE hR hD h
  · have h := wt_ip c2 h
    refine wt_iconst hE (1 : Int32) wp_md_kase_d18 wt_ci_1 ?_
    refine wt_goto hE 23 wp_md_kase_d19 rfl ?_
    exact wp_md_kase_B23_ok hE hR hD h
def wb17m7_prog_13_method_51_code_r2 : List (List Nat) := [172] :: []
def wb17m7_prog_13_method_51_code_r1 : List (List Nat) := [184, 1, 57, 154, 0, 7, 4, 167, 0, 4, 3, 5, 182, 0, 230, 153, 0, 5, 3, 172, 42, 27, 182, 1, 54, 42, 28, 182, 1, 36] :: wb17m7_prog_13_method_51_code_r2
def wb17m7_prog_13_method_51_code_r0 : List (List Nat) := [42, 3, 181, 0, 151, 42, 42, 27, 182, 1, 51, 154, 0, 7, 4, 167, 0, 4, 3, 4, 182, 0, 230, 154, 0, 23, 42, 28] :: wb17m7_prog_13_method_51_code_r1
set_option maxRecDepth 100000 in
theorem wb17m7_prog_13_method_51_code_c0 : wt_cs prog_13_method_51_code 0 wb17m7_prog_13_method_51_code_r0 := wt_cs_of (by decide +kernel)
theorem wb17m7_prog_13_method_51_code_c1 : wt_cs prog_13_method_51_code 28 wb17m7_prog_13_method_51_code_r1 := wt_cs_tl (m := 28) wb17m7_prog_13_method_51_code_c0 rfl rfl
theorem wb17m7_prog_13_method_51_code_c2 : wt_cs prog_13_method_51_code 58 wb17m7_prog_13_method_51_code_r2 := wt_cs_tl (m := 30) wb17m7_prog_13_method_51_code_c1 rfl rfl
theorem wp_md_lacks_d0 : decode prog_13_method_51_code 0 = .ok (.aload_n 0, 1) := wt_op42 wb17m7_prog_13_method_51_code_c0 0 rfl rfl
theorem wp_md_lacks_d1 : decode prog_13_method_51_code 1 = .ok (.iconst 0, 1) := wt_op3 wb17m7_prog_13_method_51_code_c0 1 rfl rfl
theorem wp_md_lacks_d2 : decode prog_13_method_51_code 2 = .ok (.putfield 151, 3) := wt_op181 wb17m7_prog_13_method_51_code_c0 2 rfl rfl rfl
theorem wp_md_lacks_d5 : decode prog_13_method_51_code 5 = .ok (.aload_n 0, 1) := wt_op42 wb17m7_prog_13_method_51_code_c0 5 rfl rfl
theorem wp_md_lacks_d6 : decode prog_13_method_51_code 6 = .ok (.aload_n 0, 1) := wt_op42 wb17m7_prog_13_method_51_code_c0 6 rfl rfl
theorem wp_md_lacks_d7 : decode prog_13_method_51_code 7 = .ok (.iload_n 1, 1) := wt_op27 wb17m7_prog_13_method_51_code_c0 7 rfl rfl
theorem wp_md_lacks_d8 : decode prog_13_method_51_code 8 = .ok (.invokevirtual 307, 3) := wt_op182 wb17m7_prog_13_method_51_code_c0 8 rfl rfl rfl
theorem wp_md_lacks_d11 : decode prog_13_method_51_code 11 = .ok (.ifCond .ne 7, 3) := wt_op154 wb17m7_prog_13_method_51_code_c0 11 rfl rfl rfl
theorem wp_md_lacks_d14 : decode prog_13_method_51_code 14 = .ok (.iconst 1, 1) := wt_op4 wb17m7_prog_13_method_51_code_c0 14 rfl rfl
theorem wp_md_lacks_d15 : decode prog_13_method_51_code 15 = .ok (.goto 4, 3) := wt_op167 wb17m7_prog_13_method_51_code_c0 15 rfl rfl rfl
theorem wp_md_lacks_d18 : decode prog_13_method_51_code 18 = .ok (.iconst 0, 1) := wt_op3 wb17m7_prog_13_method_51_code_c0 18 rfl rfl
theorem wp_md_lacks_d19 : decode prog_13_method_51_code 19 = .ok (.iconst 1, 1) := wt_op4 wb17m7_prog_13_method_51_code_c0 19 rfl rfl
theorem wp_md_lacks_d20 : decode prog_13_method_51_code 20 = .ok (.invokevirtual 230, 3) := wt_op182 wb17m7_prog_13_method_51_code_c0 20 rfl rfl rfl
theorem wp_md_lacks_d23 : decode prog_13_method_51_code 23 = .ok (.ifCond .ne 23, 3) := wt_op154 wb17m7_prog_13_method_51_code_c0 23 rfl rfl rfl
theorem wp_md_lacks_d26 : decode prog_13_method_51_code 26 = .ok (.aload_n 0, 1) := wt_op42 wb17m7_prog_13_method_51_code_c0 26 rfl rfl
theorem wp_md_lacks_d27 : decode prog_13_method_51_code 27 = .ok (.iload_n 2, 1) := wt_op28 wb17m7_prog_13_method_51_code_c0 27 rfl rfl
theorem wp_md_lacks_d28 : decode prog_13_method_51_code 28 = .ok (.invokestatic 313, 3) := wt_op184 wb17m7_prog_13_method_51_code_c1 0 rfl rfl rfl
theorem wp_md_lacks_d31 : decode prog_13_method_51_code 31 = .ok (.ifCond .ne 7, 3) := wt_op154 wb17m7_prog_13_method_51_code_c1 3 rfl rfl rfl
theorem wp_md_lacks_d34 : decode prog_13_method_51_code 34 = .ok (.iconst 1, 1) := wt_op4 wb17m7_prog_13_method_51_code_c1 6 rfl rfl
theorem wp_md_lacks_d35 : decode prog_13_method_51_code 35 = .ok (.goto 4, 3) := wt_op167 wb17m7_prog_13_method_51_code_c1 7 rfl rfl rfl
theorem wp_md_lacks_d38 : decode prog_13_method_51_code 38 = .ok (.iconst 0, 1) := wt_op3 wb17m7_prog_13_method_51_code_c1 10 rfl rfl
theorem wp_md_lacks_d39 : decode prog_13_method_51_code 39 = .ok (.iconst 2, 1) := wt_op5 wb17m7_prog_13_method_51_code_c1 11 rfl rfl
theorem wp_md_lacks_d40 : decode prog_13_method_51_code 40 = .ok (.invokevirtual 230, 3) := wt_op182 wb17m7_prog_13_method_51_code_c1 12 rfl rfl rfl
theorem wp_md_lacks_d43 : decode prog_13_method_51_code 43 = .ok (.ifCond .eq 5, 3) := wt_op153 wb17m7_prog_13_method_51_code_c1 15 rfl rfl rfl
theorem wp_md_lacks_d46 : decode prog_13_method_51_code 46 = .ok (.iconst 0, 1) := wt_op3 wb17m7_prog_13_method_51_code_c1 18 rfl rfl
theorem wp_md_lacks_d47 : decode prog_13_method_51_code 47 = .ok (.ireturn, 1) := wt_op172 wb17m7_prog_13_method_51_code_c1 19 rfl rfl
theorem wp_md_lacks_d48 : decode prog_13_method_51_code 48 = .ok (.aload_n 0, 1) := wt_op42 wb17m7_prog_13_method_51_code_c1 20 rfl rfl
theorem wp_md_lacks_d49 : decode prog_13_method_51_code 49 = .ok (.iload_n 1, 1) := wt_op27 wb17m7_prog_13_method_51_code_c1 21 rfl rfl
theorem wp_md_lacks_d50 : decode prog_13_method_51_code 50 = .ok (.invokevirtual 310, 3) := wt_op182 wb17m7_prog_13_method_51_code_c1 22 rfl rfl rfl
theorem wp_md_lacks_d53 : decode prog_13_method_51_code 53 = .ok (.aload_n 0, 1) := wt_op42 wb17m7_prog_13_method_51_code_c1 25 rfl rfl
theorem wp_md_lacks_d54 : decode prog_13_method_51_code 54 = .ok (.iload_n 2, 1) := wt_op28 wb17m7_prog_13_method_51_code_c1 26 rfl rfl
theorem wp_md_lacks_d55 : decode prog_13_method_51_code 55 = .ok (.invokevirtual 292, 3) := wt_op182 wb17m7_prog_13_method_51_code_c1 27 rfl rfl rfl
theorem wp_md_lacks_d58 : decode prog_13_method_51_code 58 = .ok (.ireturn, 1) := wt_op172 wb17m7_prog_13_method_51_code_c2 0 rfl rfl
noncomputable def wp_md_lacks_B39 (n : Nat) (x1 : Int32) (x2 : Int32) (y1 : Int32) (σ : wt_St) : Option (Int32 × wt_St) :=
  (wp_md_bad n y1 (2 : Int32) σ).bind fun q7 =>
  if q7.1 = 0 then
    (wp_md_needsText n x1 q7.2).bind fun q9 =>
    (wp_md_lacking n x2 q9).bind fun q10 =>
    some (q10.1, q10.2)
  else
    some ((0 : Int32), q7.2)
set_option maxRecDepth 100000 in
set_option maxHeartbeats 4000000 in
theorem wp_md_lacks_B39_ok  {x1 : Int32} {x2 : Int32} {X : wt_X} {n : Nat} {res : Int32 × wt_St} (hE : wt_Ok X prog_13_method_51_code 3 "WornTypeModel" 3 0) (hR : wt_Rt X (some .int) (some res.1) res.2) (hD : ∀ i, 108 ≤ i → i < 321 → wt_dom (wt_xw X) i)  {σ : wt_St} {y1 : Int32} (h : wp_md_lacks_B39 n x1 x2 y1 σ = some res) : wt_V X 0 σ 39 [some (.ref (wt_ad (wt_xw X) 108)), some (.int x1), some (.int x2)] [.int y1, .ref (wt_ad (wt_xw X) 108)] := by
  unfold wp_md_lacks_B39 at h
  refine wt_iconst hE (2 : Int32) wp_md_lacks_d39 wt_ci_2 ?_
  obtain ⟨q7, hq7, h⟩ := wt_bi h
  refine wt_callVi hE [.int y1, .int (2 : Int32)] wt_lm_md_230 wt_ya_md_bad (wp_md_bad_ok hD hq7) (by omega) (hD 108 (by decide) (by decide)) wt_L108 rfl rfl rfl (Nat.le_of_ble_eq_true rfl) (Nat.zero_le _) wp_md_lacks_d40 (fun hbq7 => ?_)
  refine wt_if_eq hE 48 wp_md_lacks_d43 rfl (fun c8 => ?_) (fun c8 => ?_)
  · have h := wt_ip c8 h
    refine wt_aload_n hE wp_md_lacks_d48 rfl ?_
    refine wt_iload_n hE wp_md_lacks_d49 rfl ?_
    obtain ⟨q9, hq9, h⟩ := wt_bi h
    refine wt_callVv hE [.int x1] wt_lm_md_310 wt_ya_md_needsText (wp_md_needsText_ok hD hq9) (by omega) (hD 108 (by decide) (by decide)) wt_L108 rfl rfl rfl (Nat.le_of_ble_eq_true rfl) (Nat.zero_le _) wp_md_lacks_d50 ?_
    refine wt_aload_n hE wp_md_lacks_d53 rfl ?_
    refine wt_iload_n hE wp_md_lacks_d54 rfl ?_
    obtain ⟨q10, hq10, h⟩ := wt_bi h
    refine wt_callVi hE [.int x2] wt_lm_md_292 wt_ya_md_lacking (wp_md_lacking_ok hD hq10) (by omega) (hD 108 (by decide) (by decide)) wt_L108 rfl rfl rfl (Nat.le_of_ble_eq_true rfl) (Nat.zero_le _) wp_md_lacks_d55 (fun hbq10 => ?_)
    cases h
    exact wt_iret hE hR wp_md_lacks_d58
  · have h := wt_in c8 h
    refine wt_iconst hE (0 : Int32) wp_md_lacks_d46 wt_ci_0 ?_
    cases h
    exact wt_iret hE hR wp_md_lacks_d47
noncomputable def wp_md_lacks_B19 (n : Nat) (x1 : Int32) (x2 : Int32) (y1 : Int32) (σ : wt_St) : Option (Int32 × wt_St) :=
  (wp_md_bad n y1 (1 : Int32) σ).bind fun q3 =>
  if q3.1 = 0 then
    (wp_md_isCopies n x2 q3.2).bind fun q5 =>
    if q5.1 = 0 then
      wp_md_lacks_B39 n x1 x2 (1 : Int32) q5.2
    else
      wp_md_lacks_B39 n x1 x2 (0 : Int32) q5.2
  else
    some ((0 : Int32), q3.2)
set_option maxRecDepth 100000 in
set_option maxHeartbeats 4000000 in
theorem wp_md_lacks_B19_ok  {x1 : Int32} {x2 : Int32} {X : wt_X} {n : Nat} {res : Int32 × wt_St} (hE : wt_Ok X prog_13_method_51_code 3 "WornTypeModel" 3 0) (hR : wt_Rt X (some .int) (some res.1) res.2) (hD : ∀ i, 108 ≤ i → i < 321 → wt_dom (wt_xw X) i)  {σ : wt_St} {y1 : Int32} (h : wp_md_lacks_B19 n x1 x2 y1 σ = some res) : wt_V X 0 σ 19 [some (.ref (wt_ad (wt_xw X) 108)), some (.int x1), some (.int x2)] [.int y1, .ref (wt_ad (wt_xw X) 108)] := by
  unfold wp_md_lacks_B19 at h
  refine wt_iconst hE (1 : Int32) wp_md_lacks_d19 wt_ci_1 ?_
  obtain ⟨q3, hq3, h⟩ := wt_bi h
  refine wt_callVi hE [.int y1, .int (1 : Int32)] wt_lm_md_230 wt_ya_md_bad (wp_md_bad_ok hD hq3) (by omega) (hD 108 (by decide) (by decide)) wt_L108 rfl rfl rfl (Nat.le_of_ble_eq_true rfl) (Nat.zero_le _) wp_md_lacks_d20 (fun hbq3 => ?_)
  refine wt_if_ne hE 46 wp_md_lacks_d23 rfl (fun c4 => ?_) (fun c4 => ?_)
  · have h := wt_in c4 h
    refine wt_iconst hE (0 : Int32) wp_md_lacks_d46 wt_ci_0 ?_
    cases h
    exact wt_iret hE hR wp_md_lacks_d47
  · have h := wt_ip c4 h
    refine wt_aload_n hE wp_md_lacks_d26 rfl ?_
    refine wt_iload_n hE wp_md_lacks_d27 rfl ?_
    obtain ⟨q5, hq5, h⟩ := wt_bi h
    refine wt_callSi hE [.int x2] wt_lm_md_313 wt_ya_md_isCopies (wp_md_isCopies_ok hq5) (by omega) rfl rfl (Nat.le_of_ble_eq_true rfl) (Nat.zero_le _) wp_md_lacks_d28 (fun hbq5 => ?_)
    refine wt_if_ne hE 38 wp_md_lacks_d31 rfl (fun c6 => ?_) (fun c6 => ?_)
    · have h := wt_in c6 h
      refine wt_iconst hE (0 : Int32) wp_md_lacks_d38 wt_ci_0 ?_
      exact wp_md_lacks_B39_ok hE hR hD h
    · have h := wt_ip c6 h
      refine wt_iconst hE (1 : Int32) wp_md_lacks_d34 wt_ci_1 ?_
      refine wt_goto hE 39 wp_md_lacks_d35 rfl ?_
      exact wp_md_lacks_B39_ok hE hR hD h
noncomputable def wp_md_lacks (n : Nat) (x1 : Int32) (x2 : Int32) (σ : wt_St) : Option (Int32 × wt_St) :=
  (wp_md_isText n x1 (wt_sf σ 108 0 (0 : Int32))).bind fun q1 =>
  if q1.1 = 0 then
    wp_md_lacks_B19 n x1 x2 (1 : Int32) q1.2
  else
    wp_md_lacks_B19 n x1 x2 (0 : Int32) q1.2
set_option maxRecDepth 100000 in
set_option maxHeartbeats 4000000 in
theorem wp_md_lacks_ok {l : Launch} {w : wt_E} {n : Nat} {x1 : Int32} {x2 : Int32} (hD : ∀ i, 108 ≤ i → i < 321 → wt_dom w i) {σ : wt_St} {q : Int32 × wt_St} (h : wp_md_lacks n x1 x2 σ = some q) : wt_Ctr l w wt_y_md_lacks prog_13_method_51_code 3 (some .int) 3 [.ref (wt_ad w 108), .int x1, .int x2] σ (some q.1) q.2 := by
  refine wt_ctr wt_pl_md_lacks rfl (Nat.le_of_ble_eq_true rfl) [some (.ref (wt_ad w 108)), some (.int x1), some (.int x2)] rfl ?_
  intro X hXl hXw hE hR
  subst hXl
  subst hXw
  have hE : wt_Ok X prog_13_method_51_code 3 "WornTypeModel" 3 0 := hE
  unfold wp_md_lacks at h
  refine wt_aload_n hE wp_md_lacks_d0 rfl ?_
  refine wt_iconst hE (0 : Int32) wp_md_lacks_d1 wt_ci_0 ?_
  refine wt_puti hE wt_lf_md_151 (hD 108 (by decide) (by decide)) wt_L108 rfl (fun q hq => by cases hq; rfl) wp_md_lacks_d2 ?_
  refine wt_aload_n hE wp_md_lacks_d5 rfl ?_
  refine wt_aload_n hE wp_md_lacks_d6 rfl ?_
  refine wt_iload_n hE wp_md_lacks_d7 rfl ?_
  obtain ⟨q1, hq1, h⟩ := wt_bi h
  refine wt_callVi hE [.int x1] wt_lm_md_307 wt_ya_md_isText (wp_md_isText_ok hD hq1) (by omega) (hD 108 (by decide) (by decide)) wt_L108 rfl rfl rfl (Nat.le_of_ble_eq_true rfl) (Nat.zero_le _) wp_md_lacks_d8 (fun hbq1 => ?_)
  refine wt_if_ne hE 18 wp_md_lacks_d11 rfl (fun c2 => ?_) (fun c2 => ?_)
  · have h := wt_in c2 h
    refine wt_iconst hE (0 : Int32) wp_md_lacks_d18 wt_ci_0 ?_
    exact wp_md_lacks_B19_ok hE hR hD h
  · have h := wt_ip c2 h
    refine wt_iconst hE (1 : Int32) wp_md_lacks_d14 wt_ci_1 ?_
    refine wt_goto hE 19 wp_md_lacks_d15 rfl ?_
    exact wp_md_lacks_B19_ok hE hR hD h
def wb17m7_prog_13_method_66_code_r10 : List (List Nat) := [167, 254, 245, 132, 2, 255, 167, 254, 233, 177] :: []
def wb17m7_prog_13_method_66_code_r9 : List (List Nat) := [180, 0, 127, 28, 50, 29, 21, 4, 2, 160, 0, 7, 2, 167, 0, 11, 21, 4, 42, 29, 182, 1, 45, 96, 79, 132, 3, 1] :: wb17m7_prog_13_method_66_code_r10
def wb17m7_prog_13_method_66_code_r8 : List (List Nat) := [42, 180, 0, 130, 28, 50, 29, 46, 42, 180, 0, 130, 28, 4, 96, 50, 21, 5, 46, 96, 79, 132, 5, 1, 167, 255, 103, 42] :: wb17m7_prog_13_method_66_code_r9
def wb17m7_prog_13_method_66_code_r7 : List (List Nat) := [28, 50, 29, 46, 42, 180, 0, 130, 28, 4, 96, 50, 21, 5, 46, 96, 19, 1, 89, 164, 0, 9, 19, 1, 89, 167, 0, 23] :: wb17m7_prog_13_method_66_code_r8
def wb17m7_prog_13_method_66_code_r6 : List (List Nat) := [42, 180, 0, 127, 28, 4, 96, 50, 21, 5, 46, 167, 0, 5, 21, 4, 54, 4, 42, 180, 0, 130, 28, 50, 29, 42, 180, 0, 130] :: wb17m7_prog_13_method_66_code_r7
def wb17m7_prog_13_method_66_code_r5 : List (List Nat) := [2, 160, 0, 6, 167, 0, 103, 21, 4, 2, 159, 0, 19, 42, 180, 0, 127, 28, 4, 96, 50, 21, 5, 46, 21, 4, 162, 0, 17] :: wb17m7_prog_13_method_66_code_r6
def wb17m7_prog_13_method_66_code_r4 : List (List Nat) := [96, 182, 1, 83, 153, 0, 131, 42, 29, 21, 5, 182, 1, 86, 153, 0, 121, 42, 180, 0, 127, 28, 4, 96, 50, 21, 5, 46] :: wb17m7_prog_13_method_66_code_r5
def wb17m7_prog_13_method_66_code_r3 : List (List Nat) := [50, 29, 4, 79, 167, 0, 191, 2, 54, 4, 3, 54, 5, 21, 5, 42, 180, 1, 3, 162, 0, 150, 42, 21, 5, 27, 28, 4] :: wb17m7_prog_13_method_66_code_r4
def wb17m7_prog_13_method_66_code_r2 : List (List Nat) := [180, 0, 88, 27, 46, 4, 100, 160, 0, 28, 42, 180, 0, 127, 28, 50, 29, 42, 29, 182, 1, 45, 79, 42, 180, 0, 130, 28] :: wb17m7_prog_13_method_66_code_r3
def wb17m7_prog_13_method_66_code_r1 : List (List Nat) := [50, 29, 2, 79, 42, 180, 0, 130, 28, 50, 29, 3, 79, 42, 29, 27, 28, 182, 1, 83, 154, 0, 6, 167, 0, 228, 28, 42] :: wb17m7_prog_13_method_66_code_r2
def wb17m7_prog_13_method_66_code_r0 : List (List Nat) := [42, 180, 0, 88, 27, 46, 4, 100, 61, 28, 155, 1, 25, 3, 62, 29, 42, 180, 1, 3, 162, 1, 9, 42, 180, 0, 127, 28] :: wb17m7_prog_13_method_66_code_r1
set_option maxRecDepth 100000 in
theorem wb17m7_prog_13_method_66_code_c0 : wt_cs prog_13_method_66_code 0 wb17m7_prog_13_method_66_code_r0 := wt_cs_of (by decide +kernel)
theorem wb17m7_prog_13_method_66_code_c1 : wt_cs prog_13_method_66_code 28 wb17m7_prog_13_method_66_code_r1 := wt_cs_tl (m := 28) wb17m7_prog_13_method_66_code_c0 rfl rfl
theorem wb17m7_prog_13_method_66_code_c2 : wt_cs prog_13_method_66_code 56 wb17m7_prog_13_method_66_code_r2 := wt_cs_tl (m := 28) wb17m7_prog_13_method_66_code_c1 rfl rfl
theorem wb17m7_prog_13_method_66_code_c3 : wt_cs prog_13_method_66_code 84 wb17m7_prog_13_method_66_code_r3 := wt_cs_tl (m := 28) wb17m7_prog_13_method_66_code_c2 rfl rfl
theorem wb17m7_prog_13_method_66_code_c4 : wt_cs prog_13_method_66_code 112 wb17m7_prog_13_method_66_code_r4 := wt_cs_tl (m := 28) wb17m7_prog_13_method_66_code_c3 rfl rfl
theorem wb17m7_prog_13_method_66_code_c5 : wt_cs prog_13_method_66_code 140 wb17m7_prog_13_method_66_code_r5 := wt_cs_tl (m := 28) wb17m7_prog_13_method_66_code_c4 rfl rfl
theorem wb17m7_prog_13_method_66_code_c6 : wt_cs prog_13_method_66_code 169 wb17m7_prog_13_method_66_code_r6 := wt_cs_tl (m := 29) wb17m7_prog_13_method_66_code_c5 rfl rfl
theorem wb17m7_prog_13_method_66_code_c7 : wt_cs prog_13_method_66_code 198 wb17m7_prog_13_method_66_code_r7 := wt_cs_tl (m := 29) wb17m7_prog_13_method_66_code_c6 rfl rfl
theorem wb17m7_prog_13_method_66_code_c8 : wt_cs prog_13_method_66_code 226 wb17m7_prog_13_method_66_code_r8 := wt_cs_tl (m := 28) wb17m7_prog_13_method_66_code_c7 rfl rfl
theorem wb17m7_prog_13_method_66_code_c9 : wt_cs prog_13_method_66_code 254 wb17m7_prog_13_method_66_code_r9 := wt_cs_tl (m := 28) wb17m7_prog_13_method_66_code_c8 rfl rfl
theorem wb17m7_prog_13_method_66_code_c10 : wt_cs prog_13_method_66_code 282 wb17m7_prog_13_method_66_code_r10 := wt_cs_tl (m := 28) wb17m7_prog_13_method_66_code_c9 rfl rfl
theorem wp_md_laysRests_d0 : decode prog_13_method_66_code 0 = .ok (.aload_n 0, 1) := wt_op42 wb17m7_prog_13_method_66_code_c0 0 rfl rfl
theorem wp_md_laysRests_d1 : decode prog_13_method_66_code 1 = .ok (.getfield 88, 3) := wt_op180 wb17m7_prog_13_method_66_code_c0 1 rfl rfl rfl
theorem wp_md_laysRests_d4 : decode prog_13_method_66_code 4 = .ok (.iload_n 1, 1) := wt_op27 wb17m7_prog_13_method_66_code_c0 4 rfl rfl
theorem wp_md_laysRests_d5 : decode prog_13_method_66_code 5 = .ok (.iaload, 1) := wt_op46 wb17m7_prog_13_method_66_code_c0 5 rfl rfl
theorem wp_md_laysRests_d6 : decode prog_13_method_66_code 6 = .ok (.iconst 1, 1) := wt_op4 wb17m7_prog_13_method_66_code_c0 6 rfl rfl
theorem wp_md_laysRests_d7 : decode prog_13_method_66_code 7 = .ok (.isub, 1) := wt_op100 wb17m7_prog_13_method_66_code_c0 7 rfl rfl
theorem wp_md_laysRests_d8 : decode prog_13_method_66_code 8 = .ok (.istore_n 2, 1) := wt_op61 wb17m7_prog_13_method_66_code_c0 8 rfl rfl
theorem wp_md_laysRests_d9 : decode prog_13_method_66_code 9 = .ok (.iload_n 2, 1) := wt_op28 wb17m7_prog_13_method_66_code_c0 9 rfl rfl
theorem wp_md_laysRests_d10 : decode prog_13_method_66_code 10 = .ok (.ifCond .lt 281, 3) := wt_op155 wb17m7_prog_13_method_66_code_c0 10 rfl rfl rfl
theorem wp_md_laysRests_d13 : decode prog_13_method_66_code 13 = .ok (.iconst 0, 1) := wt_op3 wb17m7_prog_13_method_66_code_c0 13 rfl rfl
theorem wp_md_laysRests_d14 : decode prog_13_method_66_code 14 = .ok (.istore_n 3, 1) := wt_op62 wb17m7_prog_13_method_66_code_c0 14 rfl rfl
theorem wp_md_laysRests_d15 : decode prog_13_method_66_code 15 = .ok (.iload_n 3, 1) := wt_op29 wb17m7_prog_13_method_66_code_c0 15 rfl rfl
theorem wp_md_laysRests_d16 : decode prog_13_method_66_code 16 = .ok (.aload_n 0, 1) := wt_op42 wb17m7_prog_13_method_66_code_c0 16 rfl rfl
theorem wp_md_laysRests_d17 : decode prog_13_method_66_code 17 = .ok (.getfield 259, 3) := wt_op180 wb17m7_prog_13_method_66_code_c0 17 rfl rfl rfl
theorem wp_md_laysRests_d20 : decode prog_13_method_66_code 20 = .ok (.if_icmp .ge 265, 3) := wt_op162 wb17m7_prog_13_method_66_code_c0 20 rfl rfl rfl
theorem wp_md_laysRests_d23 : decode prog_13_method_66_code 23 = .ok (.aload_n 0, 1) := wt_op42 wb17m7_prog_13_method_66_code_c0 23 rfl rfl
theorem wp_md_laysRests_d24 : decode prog_13_method_66_code 24 = .ok (.getfield 127, 3) := wt_op180 wb17m7_prog_13_method_66_code_c0 24 rfl rfl rfl
theorem wp_md_laysRests_d27 : decode prog_13_method_66_code 27 = .ok (.iload_n 2, 1) := wt_op28 wb17m7_prog_13_method_66_code_c0 27 rfl rfl
theorem wp_md_laysRests_d28 : decode prog_13_method_66_code 28 = .ok (.aaload, 1) := wt_op50 wb17m7_prog_13_method_66_code_c1 0 rfl rfl
theorem wp_md_laysRests_d29 : decode prog_13_method_66_code 29 = .ok (.iload_n 3, 1) := wt_op29 wb17m7_prog_13_method_66_code_c1 1 rfl rfl
theorem wp_md_laysRests_d30 : decode prog_13_method_66_code 30 = .ok (.iconst (-1), 1) := wt_op2 wb17m7_prog_13_method_66_code_c1 2 rfl rfl
theorem wp_md_laysRests_d31 : decode prog_13_method_66_code 31 = .ok (.iastore, 1) := wt_op79 wb17m7_prog_13_method_66_code_c1 3 rfl rfl
theorem wp_md_laysRests_d32 : decode prog_13_method_66_code 32 = .ok (.aload_n 0, 1) := wt_op42 wb17m7_prog_13_method_66_code_c1 4 rfl rfl
theorem wp_md_laysRests_d33 : decode prog_13_method_66_code 33 = .ok (.getfield 130, 3) := wt_op180 wb17m7_prog_13_method_66_code_c1 5 rfl rfl rfl
theorem wp_md_laysRests_d36 : decode prog_13_method_66_code 36 = .ok (.iload_n 2, 1) := wt_op28 wb17m7_prog_13_method_66_code_c1 8 rfl rfl
theorem wp_md_laysRests_d37 : decode prog_13_method_66_code 37 = .ok (.aaload, 1) := wt_op50 wb17m7_prog_13_method_66_code_c1 9 rfl rfl
theorem wp_md_laysRests_d38 : decode prog_13_method_66_code 38 = .ok (.iload_n 3, 1) := wt_op29 wb17m7_prog_13_method_66_code_c1 10 rfl rfl
theorem wp_md_laysRests_d39 : decode prog_13_method_66_code 39 = .ok (.iconst 0, 1) := wt_op3 wb17m7_prog_13_method_66_code_c1 11 rfl rfl
theorem wp_md_laysRests_d40 : decode prog_13_method_66_code 40 = .ok (.iastore, 1) := wt_op79 wb17m7_prog_13_method_66_code_c1 12 rfl rfl
theorem wp_md_laysRests_d41 : decode prog_13_method_66_code 41 = .ok (.aload_n 0, 1) := wt_op42 wb17m7_prog_13_method_66_code_c1 13 rfl rfl
theorem wp_md_laysRests_d42 : decode prog_13_method_66_code 42 = .ok (.iload_n 3, 1) := wt_op29 wb17m7_prog_13_method_66_code_c1 14 rfl rfl
theorem wp_md_laysRests_d43 : decode prog_13_method_66_code 43 = .ok (.iload_n 1, 1) := wt_op27 wb17m7_prog_13_method_66_code_c1 15 rfl rfl
theorem wp_md_laysRests_d44 : decode prog_13_method_66_code 44 = .ok (.iload_n 2, 1) := wt_op28 wb17m7_prog_13_method_66_code_c1 16 rfl rfl
theorem wp_md_laysRests_d45 : decode prog_13_method_66_code 45 = .ok (.invokevirtual 339, 3) := wt_op182 wb17m7_prog_13_method_66_code_c1 17 rfl rfl rfl
theorem wp_md_laysRests_d48 : decode prog_13_method_66_code 48 = .ok (.ifCond .ne 6, 3) := wt_op154 wb17m7_prog_13_method_66_code_c1 20 rfl rfl rfl
theorem wp_md_laysRests_d51 : decode prog_13_method_66_code 51 = .ok (.goto 228, 3) := wt_op167 wb17m7_prog_13_method_66_code_c1 23 rfl rfl rfl
theorem wp_md_laysRests_d54 : decode prog_13_method_66_code 54 = .ok (.iload_n 2, 1) := wt_op28 wb17m7_prog_13_method_66_code_c1 26 rfl rfl
theorem wp_md_laysRests_d55 : decode prog_13_method_66_code 55 = .ok (.aload_n 0, 1) := wt_op42 wb17m7_prog_13_method_66_code_c1 27 rfl rfl
theorem wp_md_laysRests_d56 : decode prog_13_method_66_code 56 = .ok (.getfield 88, 3) := wt_op180 wb17m7_prog_13_method_66_code_c2 0 rfl rfl rfl
theorem wp_md_laysRests_d59 : decode prog_13_method_66_code 59 = .ok (.iload_n 1, 1) := wt_op27 wb17m7_prog_13_method_66_code_c2 3 rfl rfl
theorem wp_md_laysRests_d60 : decode prog_13_method_66_code 60 = .ok (.iaload, 1) := wt_op46 wb17m7_prog_13_method_66_code_c2 4 rfl rfl
theorem wp_md_laysRests_d61 : decode prog_13_method_66_code 61 = .ok (.iconst 1, 1) := wt_op4 wb17m7_prog_13_method_66_code_c2 5 rfl rfl
theorem wp_md_laysRests_d62 : decode prog_13_method_66_code 62 = .ok (.isub, 1) := wt_op100 wb17m7_prog_13_method_66_code_c2 6 rfl rfl
theorem wp_md_laysRests_d63 : decode prog_13_method_66_code 63 = .ok (.if_icmp .ne 28, 3) := wt_op160 wb17m7_prog_13_method_66_code_c2 7 rfl rfl rfl
theorem wp_md_laysRests_d66 : decode prog_13_method_66_code 66 = .ok (.aload_n 0, 1) := wt_op42 wb17m7_prog_13_method_66_code_c2 10 rfl rfl
theorem wp_md_laysRests_d67 : decode prog_13_method_66_code 67 = .ok (.getfield 127, 3) := wt_op180 wb17m7_prog_13_method_66_code_c2 11 rfl rfl rfl
theorem wp_md_laysRests_d70 : decode prog_13_method_66_code 70 = .ok (.iload_n 2, 1) := wt_op28 wb17m7_prog_13_method_66_code_c2 14 rfl rfl
theorem wp_md_laysRests_d71 : decode prog_13_method_66_code 71 = .ok (.aaload, 1) := wt_op50 wb17m7_prog_13_method_66_code_c2 15 rfl rfl
theorem wp_md_laysRests_d72 : decode prog_13_method_66_code 72 = .ok (.iload_n 3, 1) := wt_op29 wb17m7_prog_13_method_66_code_c2 16 rfl rfl
theorem wp_md_laysRests_d73 : decode prog_13_method_66_code 73 = .ok (.aload_n 0, 1) := wt_op42 wb17m7_prog_13_method_66_code_c2 17 rfl rfl
theorem wp_md_laysRests_d74 : decode prog_13_method_66_code 74 = .ok (.iload_n 3, 1) := wt_op29 wb17m7_prog_13_method_66_code_c2 18 rfl rfl
theorem wp_md_laysRests_d75 : decode prog_13_method_66_code 75 = .ok (.invokevirtual 301, 3) := wt_op182 wb17m7_prog_13_method_66_code_c2 19 rfl rfl rfl
theorem wp_md_laysRests_d78 : decode prog_13_method_66_code 78 = .ok (.iastore, 1) := wt_op79 wb17m7_prog_13_method_66_code_c2 22 rfl rfl
theorem wp_md_laysRests_d79 : decode prog_13_method_66_code 79 = .ok (.aload_n 0, 1) := wt_op42 wb17m7_prog_13_method_66_code_c2 23 rfl rfl
theorem wp_md_laysRests_d80 : decode prog_13_method_66_code 80 = .ok (.getfield 130, 3) := wt_op180 wb17m7_prog_13_method_66_code_c2 24 rfl rfl rfl
theorem wp_md_laysRests_d83 : decode prog_13_method_66_code 83 = .ok (.iload_n 2, 1) := wt_op28 wb17m7_prog_13_method_66_code_c2 27 rfl rfl
theorem wp_md_laysRests_d84 : decode prog_13_method_66_code 84 = .ok (.aaload, 1) := wt_op50 wb17m7_prog_13_method_66_code_c3 0 rfl rfl
theorem wp_md_laysRests_d85 : decode prog_13_method_66_code 85 = .ok (.iload_n 3, 1) := wt_op29 wb17m7_prog_13_method_66_code_c3 1 rfl rfl
theorem wp_md_laysRests_d86 : decode prog_13_method_66_code 86 = .ok (.iconst 1, 1) := wt_op4 wb17m7_prog_13_method_66_code_c3 2 rfl rfl
theorem wp_md_laysRests_d87 : decode prog_13_method_66_code 87 = .ok (.iastore, 1) := wt_op79 wb17m7_prog_13_method_66_code_c3 3 rfl rfl
theorem wp_md_laysRests_d88 : decode prog_13_method_66_code 88 = .ok (.goto 191, 3) := wt_op167 wb17m7_prog_13_method_66_code_c3 4 rfl rfl rfl
theorem wp_md_laysRests_d91 : decode prog_13_method_66_code 91 = .ok (.iconst (-1), 1) := wt_op2 wb17m7_prog_13_method_66_code_c3 7 rfl rfl
theorem wp_md_laysRests_d92 : decode prog_13_method_66_code 92 = .ok (.istore 4, 2) := wt_op54 wb17m7_prog_13_method_66_code_c3 8 rfl rfl
theorem wp_md_laysRests_d94 : decode prog_13_method_66_code 94 = .ok (.iconst 0, 1) := wt_op3 wb17m7_prog_13_method_66_code_c3 10 rfl rfl
theorem wp_md_laysRests_d95 : decode prog_13_method_66_code 95 = .ok (.istore 5, 2) := wt_op54 wb17m7_prog_13_method_66_code_c3 11 rfl rfl
theorem wp_md_laysRests_d97 : decode prog_13_method_66_code 97 = .ok (.iload 5, 2) := wt_op21 wb17m7_prog_13_method_66_code_c3 13 rfl rfl
theorem wp_md_laysRests_d99 : decode prog_13_method_66_code 99 = .ok (.aload_n 0, 1) := wt_op42 wb17m7_prog_13_method_66_code_c3 15 rfl rfl
theorem wp_md_laysRests_d100 : decode prog_13_method_66_code 100 = .ok (.getfield 259, 3) := wt_op180 wb17m7_prog_13_method_66_code_c3 16 rfl rfl rfl
theorem wp_md_laysRests_d103 : decode prog_13_method_66_code 103 = .ok (.if_icmp .ge 150, 3) := wt_op162 wb17m7_prog_13_method_66_code_c3 19 rfl rfl rfl
theorem wp_md_laysRests_d106 : decode prog_13_method_66_code 106 = .ok (.aload_n 0, 1) := wt_op42 wb17m7_prog_13_method_66_code_c3 22 rfl rfl
theorem wp_md_laysRests_d107 : decode prog_13_method_66_code 107 = .ok (.iload 5, 2) := wt_op21 wb17m7_prog_13_method_66_code_c3 23 rfl rfl
theorem wp_md_laysRests_d109 : decode prog_13_method_66_code 109 = .ok (.iload_n 1, 1) := wt_op27 wb17m7_prog_13_method_66_code_c3 25 rfl rfl
theorem wp_md_laysRests_d110 : decode prog_13_method_66_code 110 = .ok (.iload_n 2, 1) := wt_op28 wb17m7_prog_13_method_66_code_c3 26 rfl rfl
theorem wp_md_laysRests_d111 : decode prog_13_method_66_code 111 = .ok (.iconst 1, 1) := wt_op4 wb17m7_prog_13_method_66_code_c3 27 rfl rfl
theorem wp_md_laysRests_d112 : decode prog_13_method_66_code 112 = .ok (.iadd, 1) := wt_op96 wb17m7_prog_13_method_66_code_c4 0 rfl rfl
theorem wp_md_laysRests_d113 : decode prog_13_method_66_code 113 = .ok (.invokevirtual 339, 3) := wt_op182 wb17m7_prog_13_method_66_code_c4 1 rfl rfl rfl
theorem wp_md_laysRests_d116 : decode prog_13_method_66_code 116 = .ok (.ifCond .eq 131, 3) := wt_op153 wb17m7_prog_13_method_66_code_c4 4 rfl rfl rfl
theorem wp_md_laysRests_d119 : decode prog_13_method_66_code 119 = .ok (.aload_n 0, 1) := wt_op42 wb17m7_prog_13_method_66_code_c4 7 rfl rfl
theorem wp_md_laysRests_d120 : decode prog_13_method_66_code 120 = .ok (.iload_n 3, 1) := wt_op29 wb17m7_prog_13_method_66_code_c4 8 rfl rfl
theorem wp_md_laysRests_d121 : decode prog_13_method_66_code 121 = .ok (.iload 5, 2) := wt_op21 wb17m7_prog_13_method_66_code_c4 9 rfl rfl
theorem wp_md_laysRests_d123 : decode prog_13_method_66_code 123 = .ok (.invokevirtual 342, 3) := wt_op182 wb17m7_prog_13_method_66_code_c4 11 rfl rfl rfl
theorem wp_md_laysRests_d126 : decode prog_13_method_66_code 126 = .ok (.ifCond .eq 121, 3) := wt_op153 wb17m7_prog_13_method_66_code_c4 14 rfl rfl rfl
theorem wp_md_laysRests_d129 : decode prog_13_method_66_code 129 = .ok (.aload_n 0, 1) := wt_op42 wb17m7_prog_13_method_66_code_c4 17 rfl rfl
theorem wp_md_laysRests_d130 : decode prog_13_method_66_code 130 = .ok (.getfield 127, 3) := wt_op180 wb17m7_prog_13_method_66_code_c4 18 rfl rfl rfl
theorem wp_md_laysRests_d133 : decode prog_13_method_66_code 133 = .ok (.iload_n 2, 1) := wt_op28 wb17m7_prog_13_method_66_code_c4 21 rfl rfl
theorem wp_md_laysRests_d134 : decode prog_13_method_66_code 134 = .ok (.iconst 1, 1) := wt_op4 wb17m7_prog_13_method_66_code_c4 22 rfl rfl
theorem wp_md_laysRests_d135 : decode prog_13_method_66_code 135 = .ok (.iadd, 1) := wt_op96 wb17m7_prog_13_method_66_code_c4 23 rfl rfl
theorem wp_md_laysRests_d136 : decode prog_13_method_66_code 136 = .ok (.aaload, 1) := wt_op50 wb17m7_prog_13_method_66_code_c4 24 rfl rfl
theorem wp_md_laysRests_d137 : decode prog_13_method_66_code 137 = .ok (.iload 5, 2) := wt_op21 wb17m7_prog_13_method_66_code_c4 25 rfl rfl
theorem wp_md_laysRests_d139 : decode prog_13_method_66_code 139 = .ok (.iaload, 1) := wt_op46 wb17m7_prog_13_method_66_code_c4 27 rfl rfl
theorem wp_md_laysRests_d140 : decode prog_13_method_66_code 140 = .ok (.iconst (-1), 1) := wt_op2 wb17m7_prog_13_method_66_code_c5 0 rfl rfl
theorem wp_md_laysRests_d141 : decode prog_13_method_66_code 141 = .ok (.if_icmp .ne 6, 3) := wt_op160 wb17m7_prog_13_method_66_code_c5 1 rfl rfl rfl
theorem wp_md_laysRests_d144 : decode prog_13_method_66_code 144 = .ok (.goto 103, 3) := wt_op167 wb17m7_prog_13_method_66_code_c5 4 rfl rfl rfl
theorem wp_md_laysRests_d147 : decode prog_13_method_66_code 147 = .ok (.iload 4, 2) := wt_op21 wb17m7_prog_13_method_66_code_c5 7 rfl rfl
theorem wp_md_laysRests_d149 : decode prog_13_method_66_code 149 = .ok (.iconst (-1), 1) := wt_op2 wb17m7_prog_13_method_66_code_c5 9 rfl rfl
theorem wp_md_laysRests_d150 : decode prog_13_method_66_code 150 = .ok (.if_icmp .eq 19, 3) := wt_op159 wb17m7_prog_13_method_66_code_c5 10 rfl rfl rfl
theorem wp_md_laysRests_d153 : decode prog_13_method_66_code 153 = .ok (.aload_n 0, 1) := wt_op42 wb17m7_prog_13_method_66_code_c5 13 rfl rfl
theorem wp_md_laysRests_d154 : decode prog_13_method_66_code 154 = .ok (.getfield 127, 3) := wt_op180 wb17m7_prog_13_method_66_code_c5 14 rfl rfl rfl
theorem wp_md_laysRests_d157 : decode prog_13_method_66_code 157 = .ok (.iload_n 2, 1) := wt_op28 wb17m7_prog_13_method_66_code_c5 17 rfl rfl
theorem wp_md_laysRests_d158 : decode prog_13_method_66_code 158 = .ok (.iconst 1, 1) := wt_op4 wb17m7_prog_13_method_66_code_c5 18 rfl rfl
theorem wp_md_laysRests_d159 : decode prog_13_method_66_code 159 = .ok (.iadd, 1) := wt_op96 wb17m7_prog_13_method_66_code_c5 19 rfl rfl
theorem wp_md_laysRests_d160 : decode prog_13_method_66_code 160 = .ok (.aaload, 1) := wt_op50 wb17m7_prog_13_method_66_code_c5 20 rfl rfl
theorem wp_md_laysRests_d161 : decode prog_13_method_66_code 161 = .ok (.iload 5, 2) := wt_op21 wb17m7_prog_13_method_66_code_c5 21 rfl rfl
theorem wp_md_laysRests_d163 : decode prog_13_method_66_code 163 = .ok (.iaload, 1) := wt_op46 wb17m7_prog_13_method_66_code_c5 23 rfl rfl
theorem wp_md_laysRests_d164 : decode prog_13_method_66_code 164 = .ok (.iload 4, 2) := wt_op21 wb17m7_prog_13_method_66_code_c5 24 rfl rfl
theorem wp_md_laysRests_d166 : decode prog_13_method_66_code 166 = .ok (.if_icmp .ge 17, 3) := wt_op162 wb17m7_prog_13_method_66_code_c5 26 rfl rfl rfl
theorem wp_md_laysRests_d169 : decode prog_13_method_66_code 169 = .ok (.aload_n 0, 1) := wt_op42 wb17m7_prog_13_method_66_code_c6 0 rfl rfl
theorem wp_md_laysRests_d170 : decode prog_13_method_66_code 170 = .ok (.getfield 127, 3) := wt_op180 wb17m7_prog_13_method_66_code_c6 1 rfl rfl rfl
theorem wp_md_laysRests_d173 : decode prog_13_method_66_code 173 = .ok (.iload_n 2, 1) := wt_op28 wb17m7_prog_13_method_66_code_c6 4 rfl rfl
theorem wp_md_laysRests_d174 : decode prog_13_method_66_code 174 = .ok (.iconst 1, 1) := wt_op4 wb17m7_prog_13_method_66_code_c6 5 rfl rfl
theorem wp_md_laysRests_d175 : decode prog_13_method_66_code 175 = .ok (.iadd, 1) := wt_op96 wb17m7_prog_13_method_66_code_c6 6 rfl rfl
theorem wp_md_laysRests_d176 : decode prog_13_method_66_code 176 = .ok (.aaload, 1) := wt_op50 wb17m7_prog_13_method_66_code_c6 7 rfl rfl
theorem wp_md_laysRests_d177 : decode prog_13_method_66_code 177 = .ok (.iload 5, 2) := wt_op21 wb17m7_prog_13_method_66_code_c6 8 rfl rfl
theorem wp_md_laysRests_d179 : decode prog_13_method_66_code 179 = .ok (.iaload, 1) := wt_op46 wb17m7_prog_13_method_66_code_c6 10 rfl rfl
theorem wp_md_laysRests_d180 : decode prog_13_method_66_code 180 = .ok (.goto 5, 3) := wt_op167 wb17m7_prog_13_method_66_code_c6 11 rfl rfl rfl
theorem wp_md_laysRests_d183 : decode prog_13_method_66_code 183 = .ok (.iload 4, 2) := wt_op21 wb17m7_prog_13_method_66_code_c6 14 rfl rfl
theorem wp_md_laysRests_d185 : decode prog_13_method_66_code 185 = .ok (.istore 4, 2) := wt_op54 wb17m7_prog_13_method_66_code_c6 16 rfl rfl
theorem wp_md_laysRests_d187 : decode prog_13_method_66_code 187 = .ok (.aload_n 0, 1) := wt_op42 wb17m7_prog_13_method_66_code_c6 18 rfl rfl
theorem wp_md_laysRests_d188 : decode prog_13_method_66_code 188 = .ok (.getfield 130, 3) := wt_op180 wb17m7_prog_13_method_66_code_c6 19 rfl rfl rfl
theorem wp_md_laysRests_d191 : decode prog_13_method_66_code 191 = .ok (.iload_n 2, 1) := wt_op28 wb17m7_prog_13_method_66_code_c6 22 rfl rfl
theorem wp_md_laysRests_d192 : decode prog_13_method_66_code 192 = .ok (.aaload, 1) := wt_op50 wb17m7_prog_13_method_66_code_c6 23 rfl rfl
theorem wp_md_laysRests_d193 : decode prog_13_method_66_code 193 = .ok (.iload_n 3, 1) := wt_op29 wb17m7_prog_13_method_66_code_c6 24 rfl rfl
theorem wp_md_laysRests_d194 : decode prog_13_method_66_code 194 = .ok (.aload_n 0, 1) := wt_op42 wb17m7_prog_13_method_66_code_c6 25 rfl rfl
theorem wp_md_laysRests_d195 : decode prog_13_method_66_code 195 = .ok (.getfield 130, 3) := wt_op180 wb17m7_prog_13_method_66_code_c6 26 rfl rfl rfl
theorem wp_md_laysRests_d198 : decode prog_13_method_66_code 198 = .ok (.iload_n 2, 1) := wt_op28 wb17m7_prog_13_method_66_code_c7 0 rfl rfl
theorem wp_md_laysRests_d199 : decode prog_13_method_66_code 199 = .ok (.aaload, 1) := wt_op50 wb17m7_prog_13_method_66_code_c7 1 rfl rfl
theorem wp_md_laysRests_d200 : decode prog_13_method_66_code 200 = .ok (.iload_n 3, 1) := wt_op29 wb17m7_prog_13_method_66_code_c7 2 rfl rfl
theorem wp_md_laysRests_d201 : decode prog_13_method_66_code 201 = .ok (.iaload, 1) := wt_op46 wb17m7_prog_13_method_66_code_c7 3 rfl rfl
theorem wp_md_laysRests_d202 : decode prog_13_method_66_code 202 = .ok (.aload_n 0, 1) := wt_op42 wb17m7_prog_13_method_66_code_c7 4 rfl rfl
theorem wp_md_laysRests_d203 : decode prog_13_method_66_code 203 = .ok (.getfield 130, 3) := wt_op180 wb17m7_prog_13_method_66_code_c7 5 rfl rfl rfl
theorem wp_md_laysRests_d206 : decode prog_13_method_66_code 206 = .ok (.iload_n 2, 1) := wt_op28 wb17m7_prog_13_method_66_code_c7 8 rfl rfl
theorem wp_md_laysRests_d207 : decode prog_13_method_66_code 207 = .ok (.iconst 1, 1) := wt_op4 wb17m7_prog_13_method_66_code_c7 9 rfl rfl
theorem wp_md_laysRests_d208 : decode prog_13_method_66_code 208 = .ok (.iadd, 1) := wt_op96 wb17m7_prog_13_method_66_code_c7 10 rfl rfl
theorem wp_md_laysRests_d209 : decode prog_13_method_66_code 209 = .ok (.aaload, 1) := wt_op50 wb17m7_prog_13_method_66_code_c7 11 rfl rfl
theorem wp_md_laysRests_d210 : decode prog_13_method_66_code 210 = .ok (.iload 5, 2) := wt_op21 wb17m7_prog_13_method_66_code_c7 12 rfl rfl
theorem wp_md_laysRests_d212 : decode prog_13_method_66_code 212 = .ok (.iaload, 1) := wt_op46 wb17m7_prog_13_method_66_code_c7 14 rfl rfl
theorem wp_md_laysRests_d213 : decode prog_13_method_66_code 213 = .ok (.iadd, 1) := wt_op96 wb17m7_prog_13_method_66_code_c7 15 rfl rfl
theorem wp_md_laysRests_d214 : decode prog_13_method_66_code 214 = .ok (.ldc_w 345, 3) := wt_op19 wb17m7_prog_13_method_66_code_c7 16 rfl rfl rfl
theorem wp_md_laysRests_d217 : decode prog_13_method_66_code 217 = .ok (.if_icmp .le 9, 3) := wt_op164 wb17m7_prog_13_method_66_code_c7 19 rfl rfl rfl
theorem wp_md_laysRests_d220 : decode prog_13_method_66_code 220 = .ok (.ldc_w 345, 3) := wt_op19 wb17m7_prog_13_method_66_code_c7 22 rfl rfl rfl
theorem wp_md_laysRests_d223 : decode prog_13_method_66_code 223 = .ok (.goto 23, 3) := wt_op167 wb17m7_prog_13_method_66_code_c7 25 rfl rfl rfl
theorem wp_md_laysRests_d226 : decode prog_13_method_66_code 226 = .ok (.aload_n 0, 1) := wt_op42 wb17m7_prog_13_method_66_code_c8 0 rfl rfl
theorem wp_md_laysRests_d227 : decode prog_13_method_66_code 227 = .ok (.getfield 130, 3) := wt_op180 wb17m7_prog_13_method_66_code_c8 1 rfl rfl rfl
theorem wp_md_laysRests_d230 : decode prog_13_method_66_code 230 = .ok (.iload_n 2, 1) := wt_op28 wb17m7_prog_13_method_66_code_c8 4 rfl rfl
theorem wp_md_laysRests_d231 : decode prog_13_method_66_code 231 = .ok (.aaload, 1) := wt_op50 wb17m7_prog_13_method_66_code_c8 5 rfl rfl
theorem wp_md_laysRests_d232 : decode prog_13_method_66_code 232 = .ok (.iload_n 3, 1) := wt_op29 wb17m7_prog_13_method_66_code_c8 6 rfl rfl
theorem wp_md_laysRests_d233 : decode prog_13_method_66_code 233 = .ok (.iaload, 1) := wt_op46 wb17m7_prog_13_method_66_code_c8 7 rfl rfl
theorem wp_md_laysRests_d234 : decode prog_13_method_66_code 234 = .ok (.aload_n 0, 1) := wt_op42 wb17m7_prog_13_method_66_code_c8 8 rfl rfl
theorem wp_md_laysRests_d235 : decode prog_13_method_66_code 235 = .ok (.getfield 130, 3) := wt_op180 wb17m7_prog_13_method_66_code_c8 9 rfl rfl rfl
theorem wp_md_laysRests_d238 : decode prog_13_method_66_code 238 = .ok (.iload_n 2, 1) := wt_op28 wb17m7_prog_13_method_66_code_c8 12 rfl rfl
theorem wp_md_laysRests_d239 : decode prog_13_method_66_code 239 = .ok (.iconst 1, 1) := wt_op4 wb17m7_prog_13_method_66_code_c8 13 rfl rfl
theorem wp_md_laysRests_d240 : decode prog_13_method_66_code 240 = .ok (.iadd, 1) := wt_op96 wb17m7_prog_13_method_66_code_c8 14 rfl rfl
theorem wp_md_laysRests_d241 : decode prog_13_method_66_code 241 = .ok (.aaload, 1) := wt_op50 wb17m7_prog_13_method_66_code_c8 15 rfl rfl
theorem wp_md_laysRests_d242 : decode prog_13_method_66_code 242 = .ok (.iload 5, 2) := wt_op21 wb17m7_prog_13_method_66_code_c8 16 rfl rfl
theorem wp_md_laysRests_d244 : decode prog_13_method_66_code 244 = .ok (.iaload, 1) := wt_op46 wb17m7_prog_13_method_66_code_c8 18 rfl rfl
theorem wp_md_laysRests_d245 : decode prog_13_method_66_code 245 = .ok (.iadd, 1) := wt_op96 wb17m7_prog_13_method_66_code_c8 19 rfl rfl
theorem wp_md_laysRests_d246 : decode prog_13_method_66_code 246 = .ok (.iastore, 1) := wt_op79 wb17m7_prog_13_method_66_code_c8 20 rfl rfl
theorem wp_md_laysRests_d247 : decode prog_13_method_66_code 247 = .ok (.iinc 5 1, 3) := wt_op132 wb17m7_prog_13_method_66_code_c8 21 rfl rfl rfl
theorem wp_md_laysRests_d250 : decode prog_13_method_66_code 250 = .ok (.goto (-153), 3) := wt_op167 wb17m7_prog_13_method_66_code_c8 24 rfl rfl rfl
theorem wp_md_laysRests_d253 : decode prog_13_method_66_code 253 = .ok (.aload_n 0, 1) := wt_op42 wb17m7_prog_13_method_66_code_c8 27 rfl rfl
theorem wp_md_laysRests_d254 : decode prog_13_method_66_code 254 = .ok (.getfield 127, 3) := wt_op180 wb17m7_prog_13_method_66_code_c9 0 rfl rfl rfl
theorem wp_md_laysRests_d257 : decode prog_13_method_66_code 257 = .ok (.iload_n 2, 1) := wt_op28 wb17m7_prog_13_method_66_code_c9 3 rfl rfl
theorem wp_md_laysRests_d258 : decode prog_13_method_66_code 258 = .ok (.aaload, 1) := wt_op50 wb17m7_prog_13_method_66_code_c9 4 rfl rfl
theorem wp_md_laysRests_d259 : decode prog_13_method_66_code 259 = .ok (.iload_n 3, 1) := wt_op29 wb17m7_prog_13_method_66_code_c9 5 rfl rfl
theorem wp_md_laysRests_d260 : decode prog_13_method_66_code 260 = .ok (.iload 4, 2) := wt_op21 wb17m7_prog_13_method_66_code_c9 6 rfl rfl
theorem wp_md_laysRests_d262 : decode prog_13_method_66_code 262 = .ok (.iconst (-1), 1) := wt_op2 wb17m7_prog_13_method_66_code_c9 8 rfl rfl
theorem wp_md_laysRests_d263 : decode prog_13_method_66_code 263 = .ok (.if_icmp .ne 7, 3) := wt_op160 wb17m7_prog_13_method_66_code_c9 9 rfl rfl rfl
theorem wp_md_laysRests_d266 : decode prog_13_method_66_code 266 = .ok (.iconst (-1), 1) := wt_op2 wb17m7_prog_13_method_66_code_c9 12 rfl rfl
theorem wp_md_laysRests_d267 : decode prog_13_method_66_code 267 = .ok (.goto 11, 3) := wt_op167 wb17m7_prog_13_method_66_code_c9 13 rfl rfl rfl
theorem wp_md_laysRests_d270 : decode prog_13_method_66_code 270 = .ok (.iload 4, 2) := wt_op21 wb17m7_prog_13_method_66_code_c9 16 rfl rfl
theorem wp_md_laysRests_d272 : decode prog_13_method_66_code 272 = .ok (.aload_n 0, 1) := wt_op42 wb17m7_prog_13_method_66_code_c9 18 rfl rfl
theorem wp_md_laysRests_d273 : decode prog_13_method_66_code 273 = .ok (.iload_n 3, 1) := wt_op29 wb17m7_prog_13_method_66_code_c9 19 rfl rfl
theorem wp_md_laysRests_d274 : decode prog_13_method_66_code 274 = .ok (.invokevirtual 301, 3) := wt_op182 wb17m7_prog_13_method_66_code_c9 20 rfl rfl rfl
theorem wp_md_laysRests_d277 : decode prog_13_method_66_code 277 = .ok (.iadd, 1) := wt_op96 wb17m7_prog_13_method_66_code_c9 23 rfl rfl
theorem wp_md_laysRests_d278 : decode prog_13_method_66_code 278 = .ok (.iastore, 1) := wt_op79 wb17m7_prog_13_method_66_code_c9 24 rfl rfl
theorem wp_md_laysRests_d279 : decode prog_13_method_66_code 279 = .ok (.iinc 3 1, 3) := wt_op132 wb17m7_prog_13_method_66_code_c9 25 rfl rfl rfl
theorem wp_md_laysRests_d282 : decode prog_13_method_66_code 282 = .ok (.goto (-267), 3) := wt_op167 wb17m7_prog_13_method_66_code_c10 0 rfl rfl rfl
theorem wp_md_laysRests_d285 : decode prog_13_method_66_code 285 = .ok (.iinc 2 (-1), 3) := wt_op132 wb17m7_prog_13_method_66_code_c10 3 rfl rfl rfl
theorem wp_md_laysRests_d288 : decode prog_13_method_66_code 288 = .ok (.goto (-279), 3) := wt_op167 wb17m7_prog_13_method_66_code_c10 6 rfl rfl rfl
theorem wp_md_laysRests_d291 : decode prog_13_method_66_code 291 = .ok (.return_, 1) := wt_op177 wb17m7_prog_13_method_66_code_c10 9 rfl rfl
noncomputable def wp_md_laysRests_B279 (n : Nat) (x1 : Int32) (x2 : Int32) (x3 : Int32) (K9 : Int32 × wt_St → Option (wt_St)) (K15 : Int32 × wt_St → Option (wt_St)) (σ : wt_St) : Option (wt_St) :=
  K15 ((x3 + (1 : Int32)), σ)
set_option maxRecDepth 100000 in
set_option maxHeartbeats 4000000 in
theorem wp_md_laysRests_B279_ok  {x1 : Int32} {x2 : Int32} {x3 : Int32} {X : wt_X} {n : Nat} {res : wt_St} (hE : wt_Ok X prog_13_method_66_code 6 "WornTypeModel" 1 0) (hR : wt_Rt X none none res) (hD : ∀ i, 108 ≤ i → i < 321 → wt_dom (wt_xw X) i)  {K9 : Int32 × wt_St → Option (wt_St)} (hK9 : ∀ s : Int32 × wt_St, K9 s = some res → wt_V X 0 s.2 9 [some (.ref (wt_ad (wt_xw X) 108)), some (.int x1), some (.int s.1), none, none, none] []) {K15 : Int32 × wt_St → Option (wt_St)} (hK15 : ∀ s : Int32 × wt_St, K15 s = some res → wt_V X 0 s.2 15 [some (.ref (wt_ad (wt_xw X) 108)), some (.int x1), some (.int x2), some (.int s.1), none, none] []) {σ : wt_St} (h : wp_md_laysRests_B279 n x1 x2 x3 K9 K15 σ = some res) : wt_V X 0 σ 279 [some (.ref (wt_ad (wt_xw X) 108)), some (.int x1), some (.int x2), some (.int x3), none, none] [] := by
  unfold wp_md_laysRests_B279 at h
  refine wt_iinc hE (x3 + (1 : Int32)) [some (.ref (wt_ad (wt_xw X) 108)), some (.int x1), some (.int x2), some (.int (x3 + (1 : Int32))), none, none] wp_md_laysRests_d279 (by decide) rfl rfl rfl ?_
  refine wt_goto hE 15 wp_md_laysRests_d282 rfl ?_
  exact hK15 ((x3 + (1 : Int32)), σ) h
noncomputable def wp_md_laysRests_B278 (n : Nat) (x1 : Int32) (x2 : Int32) (x3 : Int32) (K9 : Int32 × wt_St → Option (wt_St)) (K15 : Int32 × wt_St → Option (wt_St)) (e0 : Nat) (y1 : Int32) (y2 : Int32) (σ : wt_St) : Option (wt_St) :=
  if y1 < 0 ∨ 60 ≤ Int32.toNatClampNeg y1 then none else
  wp_md_laysRests_B279 n x1 x2 x3 K9 K15 (wt_sa σ e0 (Int32.toNatClampNeg y1) y2)
set_option maxRecDepth 100000 in
set_option maxHeartbeats 4000000 in
theorem wp_md_laysRests_B278_ok  {x1 : Int32} {x2 : Int32} {x3 : Int32} {e0 : Nat} {X : wt_X} {n : Nat} {res : wt_St} (hE : wt_Ok X prog_13_method_66_code 6 "WornTypeModel" 1 0) (hR : wt_Rt X none none res) (hD : ∀ i, 108 ≤ i → i < 321 → wt_dom (wt_xw X) i)  (hA_e0 : wt_LAY[e0]? = some (0, 60, [])) (hd_e0 : wt_dom (wt_xw X) e0) {K9 : Int32 × wt_St → Option (wt_St)} (hK9 : ∀ s : Int32 × wt_St, K9 s = some res → wt_V X 0 s.2 9 [some (.ref (wt_ad (wt_xw X) 108)), some (.int x1), some (.int s.1), none, none, none] []) {K15 : Int32 × wt_St → Option (wt_St)} (hK15 : ∀ s : Int32 × wt_St, K15 s = some res → wt_V X 0 s.2 15 [some (.ref (wt_ad (wt_xw X) 108)), some (.int x1), some (.int x2), some (.int s.1), none, none] []) {σ : wt_St} {y1 : Int32} {y2 : Int32} (h : wp_md_laysRests_B278 n x1 x2 x3 K9 K15 e0 y1 y2 σ = some res) : wt_V X 0 σ 278 [some (.ref (wt_ad (wt_xw X) 108)), some (.int x1), some (.int x2), some (.int x3), none, none] [.int y2, .int y1, .ref (wt_ad (wt_xw X) e0)] := by
  unfold wp_md_laysRests_B278 at h
  obtain ⟨g16, h⟩ := wt_gd h
  refine wt_iast hE hd_e0 hA_e0 g16 wp_md_laysRests_d278 ?_
  exact wp_md_laysRests_B279_ok hE hR hD hK9 hK15 h
noncomputable def wp_md_laysRests_B247 (n : Nat) (x1 : Int32) (x2 : Int32) (x3 : Int32) (x4 : Int32) (x5 : Int32) (K9 : Int32 × wt_St → Option (wt_St)) (K15 : Int32 × wt_St → Option (wt_St)) (K97 : Int32 × Int32 × wt_St → Option (wt_St)) (σ : wt_St) : Option (wt_St) :=
  K97 (x4, (x5 + (1 : Int32)), σ)
set_option maxRecDepth 100000 in
set_option maxHeartbeats 4000000 in
theorem wp_md_laysRests_B247_ok  {x1 : Int32} {x2 : Int32} {x3 : Int32} {x4 : Int32} {x5 : Int32} {X : wt_X} {n : Nat} {res : wt_St} (hE : wt_Ok X prog_13_method_66_code 6 "WornTypeModel" 1 0) (hR : wt_Rt X none none res) (hD : ∀ i, 108 ≤ i → i < 321 → wt_dom (wt_xw X) i)  {K9 : Int32 × wt_St → Option (wt_St)} (hK9 : ∀ s : Int32 × wt_St, K9 s = some res → wt_V X 0 s.2 9 [some (.ref (wt_ad (wt_xw X) 108)), some (.int x1), some (.int s.1), none, none, none] []) {K15 : Int32 × wt_St → Option (wt_St)} (hK15 : ∀ s : Int32 × wt_St, K15 s = some res → wt_V X 0 s.2 15 [some (.ref (wt_ad (wt_xw X) 108)), some (.int x1), some (.int x2), some (.int s.1), none, none] []) {K97 : Int32 × Int32 × wt_St → Option (wt_St)} (hK97 : ∀ s : Int32 × Int32 × wt_St, K97 s = some res → wt_V X 0 s.2.2 97 [some (.ref (wt_ad (wt_xw X) 108)), some (.int x1), some (.int x2), some (.int x3), some (.int s.1), some (.int s.2.1)] []) {σ : wt_St} (h : wp_md_laysRests_B247 n x1 x2 x3 x4 x5 K9 K15 K97 σ = some res) : wt_V X 0 σ 247 [some (.ref (wt_ad (wt_xw X) 108)), some (.int x1), some (.int x2), some (.int x3), some (.int x4), some (.int x5)] [] := by
  unfold wp_md_laysRests_B247 at h
  refine wt_iinc hE (x5 + (1 : Int32)) [some (.ref (wt_ad (wt_xw X) 108)), some (.int x1), some (.int x2), some (.int x3), some (.int x4), some (.int (x5 + (1 : Int32)))] wp_md_laysRests_d247 (by decide) rfl rfl rfl ?_
  refine wt_goto hE 97 wp_md_laysRests_d250 rfl ?_
  exact hK97 (x4, (x5 + (1 : Int32)), σ) h
noncomputable def wp_md_laysRests_B246 (n : Nat) (x1 : Int32) (x2 : Int32) (x3 : Int32) (x4 : Int32) (x5 : Int32) (K9 : Int32 × wt_St → Option (wt_St)) (K15 : Int32 × wt_St → Option (wt_St)) (K97 : Int32 × Int32 × wt_St → Option (wt_St)) (e0 : Nat) (y1 : Int32) (y2 : Int32) (σ : wt_St) : Option (wt_St) :=
  if y1 < 0 ∨ 60 ≤ Int32.toNatClampNeg y1 then none else
  wp_md_laysRests_B247 n x1 x2 x3 x4 x5 K9 K15 K97 (wt_sa σ e0 (Int32.toNatClampNeg y1) y2)
set_option maxRecDepth 100000 in
set_option maxHeartbeats 4000000 in
theorem wp_md_laysRests_B246_ok  {x1 : Int32} {x2 : Int32} {x3 : Int32} {x4 : Int32} {x5 : Int32} {e0 : Nat} {X : wt_X} {n : Nat} {res : wt_St} (hE : wt_Ok X prog_13_method_66_code 6 "WornTypeModel" 1 0) (hR : wt_Rt X none none res) (hD : ∀ i, 108 ≤ i → i < 321 → wt_dom (wt_xw X) i)  (hA_e0 : wt_LAY[e0]? = some (0, 60, [])) (hd_e0 : wt_dom (wt_xw X) e0) {K9 : Int32 × wt_St → Option (wt_St)} (hK9 : ∀ s : Int32 × wt_St, K9 s = some res → wt_V X 0 s.2 9 [some (.ref (wt_ad (wt_xw X) 108)), some (.int x1), some (.int s.1), none, none, none] []) {K15 : Int32 × wt_St → Option (wt_St)} (hK15 : ∀ s : Int32 × wt_St, K15 s = some res → wt_V X 0 s.2 15 [some (.ref (wt_ad (wt_xw X) 108)), some (.int x1), some (.int x2), some (.int s.1), none, none] []) {K97 : Int32 × Int32 × wt_St → Option (wt_St)} (hK97 : ∀ s : Int32 × Int32 × wt_St, K97 s = some res → wt_V X 0 s.2.2 97 [some (.ref (wt_ad (wt_xw X) 108)), some (.int x1), some (.int x2), some (.int x3), some (.int s.1), some (.int s.2.1)] []) {σ : wt_St} {y1 : Int32} {y2 : Int32} (h : wp_md_laysRests_B246 n x1 x2 x3 x4 x5 K9 K15 K97 e0 y1 y2 σ = some res) : wt_V X 0 σ 246 [some (.ref (wt_ad (wt_xw X) 108)), some (.int x1), some (.int x2), some (.int x3), some (.int x4), some (.int x5)] [.int y2, .int y1, .ref (wt_ad (wt_xw X) e0)] := by
  unfold wp_md_laysRests_B246 at h
  obtain ⟨g37, h⟩ := wt_gd h
  refine wt_iast hE hd_e0 hA_e0 g37 wp_md_laysRests_d246 ?_
  exact wp_md_laysRests_B247_ok hE hR hD hK9 hK15 hK97 h
noncomputable def wp_md_laysRests_B185 (n : Nat) (x1 : Int32) (x2 : Int32) (x3 : Int32) (x5 : Int32) (K9 : Int32 × wt_St → Option (wt_St)) (K15 : Int32 × wt_St → Option (wt_St)) (K97 : Int32 × Int32 × wt_St → Option (wt_St)) (y0 : Int32) (σ : wt_St) : Option (wt_St) :=
  if x2 < 0 ∨ 12 ≤ Int32.toNatClampNeg x2 then none else
  if x2 < 0 ∨ 12 ≤ Int32.toNatClampNeg x2 then none else
  if x3 < 0 ∨ 60 ≤ Int32.toNatClampNeg x3 then none else
  if (x2 + (1 : Int32)) < 0 ∨ 12 ≤ Int32.toNatClampNeg (x2 + (1 : Int32)) then none else
  if x5 < 0 ∨ 60 ≤ Int32.toNatClampNeg x5 then none else
  if ((wt_ga σ (305 + Int32.toNatClampNeg x2) (Int32.toNatClampNeg x3)) + (wt_ga σ (305 + Int32.toNatClampNeg (x2 + (1 : Int32))) (Int32.toNatClampNeg x5))) ≤ (1000000 : Int32) then
    if x2 < 0 ∨ 12 ≤ Int32.toNatClampNeg x2 then none else
    if x3 < 0 ∨ 60 ≤ Int32.toNatClampNeg x3 then none else
    if (x2 + (1 : Int32)) < 0 ∨ 12 ≤ Int32.toNatClampNeg (x2 + (1 : Int32)) then none else
    if x5 < 0 ∨ 60 ≤ Int32.toNatClampNeg x5 then none else
    wp_md_laysRests_B246 n x1 x2 x3 y0 x5 K9 K15 K97 (305 + Int32.toNatClampNeg x2) x3 ((wt_ga σ (305 + Int32.toNatClampNeg x2) (Int32.toNatClampNeg x3)) + (wt_ga σ (305 + Int32.toNatClampNeg (x2 + (1 : Int32))) (Int32.toNatClampNeg x5))) σ
  else
    wp_md_laysRests_B246 n x1 x2 x3 y0 x5 K9 K15 K97 (305 + Int32.toNatClampNeg x2) x3 (1000000 : Int32) σ
set_option maxRecDepth 100000 in
set_option maxHeartbeats 4000000 in
theorem wp_md_laysRests_B185_ok  {x1 : Int32} {x2 : Int32} {x3 : Int32} {x5 : Int32} {X : wt_X} {n : Nat} {res : wt_St} (hE : wt_Ok X prog_13_method_66_code 6 "WornTypeModel" 1 0) (hR : wt_Rt X none none res) (hD : ∀ i, 108 ≤ i → i < 321 → wt_dom (wt_xw X) i)  {K9 : Int32 × wt_St → Option (wt_St)} (hK9 : ∀ s : Int32 × wt_St, K9 s = some res → wt_V X 0 s.2 9 [some (.ref (wt_ad (wt_xw X) 108)), some (.int x1), some (.int s.1), none, none, none] []) {K15 : Int32 × wt_St → Option (wt_St)} (hK15 : ∀ s : Int32 × wt_St, K15 s = some res → wt_V X 0 s.2 15 [some (.ref (wt_ad (wt_xw X) 108)), some (.int x1), some (.int x2), some (.int s.1), none, none] []) {K97 : Int32 × Int32 × wt_St → Option (wt_St)} (hK97 : ∀ s : Int32 × Int32 × wt_St, K97 s = some res → wt_V X 0 s.2.2 97 [some (.ref (wt_ad (wt_xw X) 108)), some (.int x1), some (.int x2), some (.int x3), some (.int s.1), some (.int s.2.1)] []) {σ : wt_St} {y0 : Int32} (h : wp_md_laysRests_B185 n x1 x2 x3 x5 K9 K15 K97 y0 σ = some res) : wt_V X 0 σ 185 [some (.ref (wt_ad (wt_xw X) 108)), some (.int x1), some (.int x2), some (.int x3), none, some (.int x5)] [.int y0] := by
  unfold wp_md_laysRests_B185 at h
  refine wt_istore hE [some (.ref (wt_ad (wt_xw X) 108)), some (.int x1), some (.int x2), some (.int x3), some (.int y0), some (.int x5)] wp_md_laysRests_d185 (Nat.le_of_ble_eq_true rfl) rfl ?_
  refine wt_aload_n hE wp_md_laysRests_d187 rfl ?_
  refine wt_getr hE (r := 304) wt_lf_md_130 (hD 108 (by decide) (by decide)) wt_L108 rfl wp_md_laysRests_d188 ?_
  refine wt_iload_n hE wp_md_laysRests_d191 rfl ?_
  obtain ⟨g27, h⟩ := wt_gd h
  have lg27 := wt_lt g27
  refine wt_aald1 hE (hD 304 (by decide) (by decide)) wt_L304 g27 wp_md_laysRests_d192 ?_
  refine wt_iload_n hE wp_md_laysRests_d193 rfl ?_
  refine wt_aload_n hE wp_md_laysRests_d194 rfl ?_
  refine wt_getr hE (r := 304) wt_lf_md_130 (hD 108 (by decide) (by decide)) wt_L108 rfl wp_md_laysRests_d195 ?_
  refine wt_iload_n hE wp_md_laysRests_d198 rfl ?_
  obtain ⟨g28, h⟩ := wt_gd h
  have lg28 := wt_lt g28
  refine wt_aald1 hE (hD 304 (by decide) (by decide)) wt_L304 g28 wp_md_laysRests_d199 ?_
  refine wt_iload_n hE wp_md_laysRests_d200 rfl ?_
  obtain ⟨g29, h⟩ := wt_gd h
  refine wt_iald hE (hD _ (by omega) (by omega)) (wt_G305 _ lg28) g29 wp_md_laysRests_d201 ?_
  refine wt_aload_n hE wp_md_laysRests_d202 rfl ?_
  refine wt_getr hE (r := 304) wt_lf_md_130 (hD 108 (by decide) (by decide)) wt_L108 rfl wp_md_laysRests_d203 ?_
  refine wt_iload_n hE wp_md_laysRests_d206 rfl ?_
  refine wt_iconst hE (1 : Int32) wp_md_laysRests_d207 wt_ci_1 ?_
  refine wt_iadd hE wp_md_laysRests_d208 ?_
  obtain ⟨g30, h⟩ := wt_gd h
  have lg30 := wt_lt g30
  refine wt_aald1 hE (hD 304 (by decide) (by decide)) wt_L304 g30 wp_md_laysRests_d209 ?_
  refine wt_iload hE wp_md_laysRests_d210 rfl ?_
  obtain ⟨g31, h⟩ := wt_gd h
  refine wt_iald hE (hD _ (by omega) (by omega)) (wt_G305 _ lg30) g31 wp_md_laysRests_d212 ?_
  refine wt_iadd hE wp_md_laysRests_d213 ?_
  refine wt_ldcw hE (1000000 : Int32) wt_lc_md_345 wp_md_laysRests_d214 ?_
  refine wt_icmp_le hE 226 wp_md_laysRests_d217 rfl (fun c32 => ?_) (fun c32 => ?_)
  · have h := wt_ip c32 h
    refine wt_aload_n hE wp_md_laysRests_d226 rfl ?_
    refine wt_getr hE (r := 304) wt_lf_md_130 (hD 108 (by decide) (by decide)) wt_L108 rfl wp_md_laysRests_d227 ?_
    refine wt_iload_n hE wp_md_laysRests_d230 rfl ?_
    obtain ⟨g33, h⟩ := wt_gd h
    have lg33 := wt_lt g33
    refine wt_aald1 hE (hD 304 (by decide) (by decide)) wt_L304 g33 wp_md_laysRests_d231 ?_
    refine wt_iload_n hE wp_md_laysRests_d232 rfl ?_
    obtain ⟨g34, h⟩ := wt_gd h
    refine wt_iald hE (hD _ (by omega) (by omega)) (wt_G305 _ lg33) g34 wp_md_laysRests_d233 ?_
    refine wt_aload_n hE wp_md_laysRests_d234 rfl ?_
    refine wt_getr hE (r := 304) wt_lf_md_130 (hD 108 (by decide) (by decide)) wt_L108 rfl wp_md_laysRests_d235 ?_
    refine wt_iload_n hE wp_md_laysRests_d238 rfl ?_
    refine wt_iconst hE (1 : Int32) wp_md_laysRests_d239 wt_ci_1 ?_
    refine wt_iadd hE wp_md_laysRests_d240 ?_
    obtain ⟨g35, h⟩ := wt_gd h
    have lg35 := wt_lt g35
    refine wt_aald1 hE (hD 304 (by decide) (by decide)) wt_L304 g35 wp_md_laysRests_d241 ?_
    refine wt_iload hE wp_md_laysRests_d242 rfl ?_
    obtain ⟨g36, h⟩ := wt_gd h
    refine wt_iald hE (hD _ (by omega) (by omega)) (wt_G305 _ lg35) g36 wp_md_laysRests_d244 ?_
    refine wt_iadd hE wp_md_laysRests_d245 ?_
    exact wp_md_laysRests_B246_ok hE hR hD (wt_G305 _ lg27) (hD _ (by omega) (by omega)) hK9 hK15 hK97 h
  · have h := wt_in c32 h
    refine wt_ldcw hE (1000000 : Int32) wt_lc_md_345 wp_md_laysRests_d220 ?_
    refine wt_goto hE 246 wp_md_laysRests_d223 rfl ?_
    exact wp_md_laysRests_B246_ok hE hR hD (wt_G305 _ lg27) (hD _ (by omega) (by omega)) hK9 hK15 hK97 h
noncomputable def wp_md_laysRests_B169 (n : Nat) (x1 : Int32) (x2 : Int32) (x3 : Int32) (x5 : Int32) (K9 : Int32 × wt_St → Option (wt_St)) (K15 : Int32 × wt_St → Option (wt_St)) (K97 : Int32 × Int32 × wt_St → Option (wt_St)) (σ : wt_St) : Option (wt_St) :=
  if (x2 + (1 : Int32)) < 0 ∨ 12 ≤ Int32.toNatClampNeg (x2 + (1 : Int32)) then none else
  if x5 < 0 ∨ 60 ≤ Int32.toNatClampNeg x5 then none else
  wp_md_laysRests_B185 n x1 x2 x3 x5 K9 K15 K97 (wt_ga σ (292 + Int32.toNatClampNeg (x2 + (1 : Int32))) (Int32.toNatClampNeg x5)) σ
set_option maxRecDepth 100000 in
set_option maxHeartbeats 4000000 in
theorem wp_md_laysRests_B169_ok  {x1 : Int32} {x2 : Int32} {x3 : Int32} {x5 : Int32} {X : wt_X} {n : Nat} {res : wt_St} (hE : wt_Ok X prog_13_method_66_code 6 "WornTypeModel" 1 0) (hR : wt_Rt X none none res) (hD : ∀ i, 108 ≤ i → i < 321 → wt_dom (wt_xw X) i)  {K9 : Int32 × wt_St → Option (wt_St)} (hK9 : ∀ s : Int32 × wt_St, K9 s = some res → wt_V X 0 s.2 9 [some (.ref (wt_ad (wt_xw X) 108)), some (.int x1), some (.int s.1), none, none, none] []) {K15 : Int32 × wt_St → Option (wt_St)} (hK15 : ∀ s : Int32 × wt_St, K15 s = some res → wt_V X 0 s.2 15 [some (.ref (wt_ad (wt_xw X) 108)), some (.int x1), some (.int x2), some (.int s.1), none, none] []) {K97 : Int32 × Int32 × wt_St → Option (wt_St)} (hK97 : ∀ s : Int32 × Int32 × wt_St, K97 s = some res → wt_V X 0 s.2.2 97 [some (.ref (wt_ad (wt_xw X) 108)), some (.int x1), some (.int x2), some (.int x3), some (.int s.1), some (.int s.2.1)] []) {σ : wt_St} (h : wp_md_laysRests_B169 n x1 x2 x3 x5 K9 K15 K97 σ = some res) : wt_V X 0 σ 169 [some (.ref (wt_ad (wt_xw X) 108)), some (.int x1), some (.int x2), some (.int x3), none, some (.int x5)] [] := by
  unfold wp_md_laysRests_B169 at h
  refine wt_aload_n hE wp_md_laysRests_d169 rfl ?_
  refine wt_getr hE (r := 291) wt_lf_md_127 (hD 108 (by decide) (by decide)) wt_L108 rfl wp_md_laysRests_d170 ?_
  refine wt_iload_n hE wp_md_laysRests_d173 rfl ?_
  refine wt_iconst hE (1 : Int32) wp_md_laysRests_d174 wt_ci_1 ?_
  refine wt_iadd hE wp_md_laysRests_d175 ?_
  obtain ⟨g25, h⟩ := wt_gd h
  have lg25 := wt_lt g25
  refine wt_aald1 hE (hD 291 (by decide) (by decide)) wt_L291 g25 wp_md_laysRests_d176 ?_
  refine wt_iload hE wp_md_laysRests_d177 rfl ?_
  obtain ⟨g26, h⟩ := wt_gd h
  refine wt_iald hE (hD _ (by omega) (by omega)) (wt_G292 _ lg25) g26 wp_md_laysRests_d179 ?_
  refine wt_goto hE 185 wp_md_laysRests_d180 rfl ?_
  exact wp_md_laysRests_B185_ok hE hR hD hK9 hK15 hK97 h
noncomputable def wp_md_laysRests_B97 (n : Nat) (x1 : Int32) (x2 : Int32) (x3 : Int32) (K9 : Int32 × wt_St → Option (wt_St)) (K15 : Int32 × wt_St → Option (wt_St)) (K97 : Int32 × Int32 × wt_St → Option (wt_St)) (s : Int32 × Int32 × wt_St) : Option (wt_St) :=
  if (wt_gf s.2.2 108 28) ≤ s.2.1 then
    if x2 < 0 ∨ 12 ≤ Int32.toNatClampNeg x2 then none else
    if s.1 = (-1 : Int32) then
      wp_md_laysRests_B278 n x1 x2 x3 K9 K15 (292 + Int32.toNatClampNeg x2) x3 (-1 : Int32) s.2.2
    else
      (wp_md_priceOf n x3 s.2.2).bind fun q15 =>
      wp_md_laysRests_B278 n x1 x2 x3 K9 K15 (292 + Int32.toNatClampNeg x2) x3 (s.1 + q15.1) q15.2
  else
    (wp_md_isOf n s.2.1 x1 (x2 + (1 : Int32)) s.2.2).bind fun q17 =>
    if q17.1 = 0 then
      wp_md_laysRests_B247 n x1 x2 x3 s.1 s.2.1 K9 K15 K97 q17.2
    else
      (wp_md_mayFollow n x3 s.2.1 q17.2).bind fun q19 =>
      if q19.1 = 0 then
        wp_md_laysRests_B247 n x1 x2 x3 s.1 s.2.1 K9 K15 K97 q19.2
      else
        if (x2 + (1 : Int32)) < 0 ∨ 12 ≤ Int32.toNatClampNeg (x2 + (1 : Int32)) then none else
        if s.2.1 < 0 ∨ 60 ≤ Int32.toNatClampNeg s.2.1 then none else
        if (wt_ga q19.2 (292 + Int32.toNatClampNeg (x2 + (1 : Int32))) (Int32.toNatClampNeg s.2.1)) = (-1 : Int32) then
          wp_md_laysRests_B247 n x1 x2 x3 s.1 s.2.1 K9 K15 K97 q19.2
        else
          if s.1 = (-1 : Int32) then
            wp_md_laysRests_B169 n x1 x2 x3 s.2.1 K9 K15 K97 q19.2
          else
            if (x2 + (1 : Int32)) < 0 ∨ 12 ≤ Int32.toNatClampNeg (x2 + (1 : Int32)) then none else
            if s.2.1 < 0 ∨ 60 ≤ Int32.toNatClampNeg s.2.1 then none else
            if s.1 ≤ (wt_ga q19.2 (292 + Int32.toNatClampNeg (x2 + (1 : Int32))) (Int32.toNatClampNeg s.2.1)) then
              wp_md_laysRests_B185 n x1 x2 x3 s.2.1 K9 K15 K97 s.1 q19.2
            else
              wp_md_laysRests_B169 n x1 x2 x3 s.2.1 K9 K15 K97 q19.2
set_option maxRecDepth 100000 in
set_option maxHeartbeats 4000000 in
theorem wp_md_laysRests_B97_ok  {x1 : Int32} {x2 : Int32} {x3 : Int32} {X : wt_X} {n : Nat} {res : wt_St} (hE : wt_Ok X prog_13_method_66_code 6 "WornTypeModel" 1 0) (hR : wt_Rt X none none res) (hD : ∀ i, 108 ≤ i → i < 321 → wt_dom (wt_xw X) i)  {K9 : Int32 × wt_St → Option (wt_St)} (hK9 : ∀ s : Int32 × wt_St, K9 s = some res → wt_V X 0 s.2 9 [some (.ref (wt_ad (wt_xw X) 108)), some (.int x1), some (.int s.1), none, none, none] []) {K15 : Int32 × wt_St → Option (wt_St)} (hK15 : ∀ s : Int32 × wt_St, K15 s = some res → wt_V X 0 s.2 15 [some (.ref (wt_ad (wt_xw X) 108)), some (.int x1), some (.int x2), some (.int s.1), none, none] []) {K97 : Int32 × Int32 × wt_St → Option (wt_St)} (hK97 : ∀ s : Int32 × Int32 × wt_St, K97 s = some res → wt_V X 0 s.2.2 97 [some (.ref (wt_ad (wt_xw X) 108)), some (.int x1), some (.int x2), some (.int x3), some (.int s.1), some (.int s.2.1)] []) {s : Int32 × Int32 × wt_St} (h : wp_md_laysRests_B97 n x1 x2 x3 K9 K15 K97 s = some res) : wt_V X 0 s.2.2 97 [some (.ref (wt_ad (wt_xw X) 108)), some (.int x1), some (.int x2), some (.int x3), some (.int s.1), some (.int s.2.1)] [] := by
  unfold wp_md_laysRests_B97 at h
  refine wt_iload hE wp_md_laysRests_d97 rfl ?_
  refine wt_aload_n hE wp_md_laysRests_d99 rfl ?_
  refine wt_geti hE wt_lf_md_259 (hD 108 (by decide) (by decide)) wt_L108 rfl wp_md_laysRests_d100 ?_
  refine wt_icmp_ge hE 253 wp_md_laysRests_d103 rfl (fun c12 => ?_) (fun c12 => ?_)
  · have h := wt_ip c12 h
    refine wt_aload_n hE wp_md_laysRests_d253 rfl ?_
    refine wt_getr hE (r := 291) wt_lf_md_127 (hD 108 (by decide) (by decide)) wt_L108 rfl wp_md_laysRests_d254 ?_
    refine wt_iload_n hE wp_md_laysRests_d257 rfl ?_
    obtain ⟨g13, h⟩ := wt_gd h
    have lg13 := wt_lt g13
    refine wt_aald1 hE (hD 291 (by decide) (by decide)) wt_L291 g13 wp_md_laysRests_d258 ?_
    refine wt_iload_n hE wp_md_laysRests_d259 rfl ?_
    refine wt_iload hE wp_md_laysRests_d260 rfl ?_
    refine wt_iconst hE (-1 : Int32) wp_md_laysRests_d262 wt_ci_m1 ?_
    refine wt_icmp_ne hE 270 wp_md_laysRests_d263 rfl (fun c14 => ?_) (fun c14 => ?_)
    · have h := wt_in c14 h
      refine wt_iload hE wp_md_laysRests_d270 rfl ?_
      refine wt_aload_n hE wp_md_laysRests_d272 rfl ?_
      refine wt_iload_n hE wp_md_laysRests_d273 rfl ?_
      obtain ⟨q15, hq15, h⟩ := wt_bi h
      refine wt_callVi hE [.int x3] wt_lm_md_301 wt_ya_md_priceOf (wp_md_priceOf_ok hD hq15) (by omega) (hD 108 (by decide) (by decide)) wt_L108 rfl rfl rfl (Nat.le_of_ble_eq_true rfl) (Nat.zero_le _) wp_md_laysRests_d274 (fun hbq15 => ?_)
      refine wt_iadd hE wp_md_laysRests_d277 ?_
      refine wt_wk [true, true, true, true, false, false] rfl ?_
      exact wp_md_laysRests_B278_ok hE hR hD (wt_G292 _ lg13) (hD _ (by omega) (by omega)) hK9 hK15 h
    · have h := wt_ip c14 h
      refine wt_iconst hE (-1 : Int32) wp_md_laysRests_d266 wt_ci_m1 ?_
      refine wt_goto hE 278 wp_md_laysRests_d267 rfl ?_
      refine wt_wk [true, true, true, true, false, false] rfl ?_
      exact wp_md_laysRests_B278_ok hE hR hD (wt_G292 _ lg13) (hD _ (by omega) (by omega)) hK9 hK15 h
  · have h := wt_in c12 h
    refine wt_aload_n hE wp_md_laysRests_d106 rfl ?_
    refine wt_iload hE wp_md_laysRests_d107 rfl ?_
    refine wt_iload_n hE wp_md_laysRests_d109 rfl ?_
    refine wt_iload_n hE wp_md_laysRests_d110 rfl ?_
    refine wt_iconst hE (1 : Int32) wp_md_laysRests_d111 wt_ci_1 ?_
    refine wt_iadd hE wp_md_laysRests_d112 ?_
    obtain ⟨q17, hq17, h⟩ := wt_bi h
    refine wt_callVi hE [.int s.2.1, .int x1, .int (x2 + (1 : Int32))] wt_lm_md_339 wt_ya_md_isOf (wp_md_isOf_ok hD hq17) (by omega) (hD 108 (by decide) (by decide)) wt_L108 rfl rfl rfl (Nat.le_of_ble_eq_true rfl) (Nat.zero_le _) wp_md_laysRests_d113 (fun hbq17 => ?_)
    refine wt_if_eq hE 247 wp_md_laysRests_d116 rfl (fun c18 => ?_) (fun c18 => ?_)
    · have h := wt_ip c18 h
      exact wp_md_laysRests_B247_ok hE hR hD hK9 hK15 hK97 h
    · have h := wt_in c18 h
      refine wt_aload_n hE wp_md_laysRests_d119 rfl ?_
      refine wt_iload_n hE wp_md_laysRests_d120 rfl ?_
      refine wt_iload hE wp_md_laysRests_d121 rfl ?_
      obtain ⟨q19, hq19, h⟩ := wt_bi h
      refine wt_callVi hE [.int x3, .int s.2.1] wt_lm_md_342 wt_ya_md_mayFollow (wp_md_mayFollow_ok hD hq19) (by omega) (hD 108 (by decide) (by decide)) wt_L108 rfl rfl rfl (Nat.le_of_ble_eq_true rfl) (Nat.zero_le _) wp_md_laysRests_d123 (fun hbq19 => ?_)
      refine wt_if_eq hE 247 wp_md_laysRests_d126 rfl (fun c20 => ?_) (fun c20 => ?_)
      · have h := wt_ip c20 h
        exact wp_md_laysRests_B247_ok hE hR hD hK9 hK15 hK97 h
      · have h := wt_in c20 h
        refine wt_aload_n hE wp_md_laysRests_d129 rfl ?_
        refine wt_getr hE (r := 291) wt_lf_md_127 (hD 108 (by decide) (by decide)) wt_L108 rfl wp_md_laysRests_d130 ?_
        refine wt_iload_n hE wp_md_laysRests_d133 rfl ?_
        refine wt_iconst hE (1 : Int32) wp_md_laysRests_d134 wt_ci_1 ?_
        refine wt_iadd hE wp_md_laysRests_d135 ?_
        obtain ⟨g21, h⟩ := wt_gd h
        have lg21 := wt_lt g21
        refine wt_aald1 hE (hD 291 (by decide) (by decide)) wt_L291 g21 wp_md_laysRests_d136 ?_
        refine wt_iload hE wp_md_laysRests_d137 rfl ?_
        obtain ⟨g22, h⟩ := wt_gd h
        refine wt_iald hE (hD _ (by omega) (by omega)) (wt_G292 _ lg21) g22 wp_md_laysRests_d139 ?_
        refine wt_iconst hE (-1 : Int32) wp_md_laysRests_d140 wt_ci_m1 ?_
        refine wt_icmp_ne hE 147 wp_md_laysRests_d141 rfl (fun c23 => ?_) (fun c23 => ?_)
        · have h := wt_in c23 h
          refine wt_iload hE wp_md_laysRests_d147 rfl ?_
          refine wt_iconst hE (-1 : Int32) wp_md_laysRests_d149 wt_ci_m1 ?_
          refine wt_icmp_eq hE 169 wp_md_laysRests_d150 rfl (fun c24 => ?_) (fun c24 => ?_)
          · have h := wt_ip c24 h
            refine wt_wk [true, true, true, true, false, true] rfl ?_
            exact wp_md_laysRests_B169_ok hE hR hD hK9 hK15 hK97 h
          · have h := wt_in c24 h
            refine wt_aload_n hE wp_md_laysRests_d153 rfl ?_
            refine wt_getr hE (r := 291) wt_lf_md_127 (hD 108 (by decide) (by decide)) wt_L108 rfl wp_md_laysRests_d154 ?_
            refine wt_iload_n hE wp_md_laysRests_d157 rfl ?_
            refine wt_iconst hE (1 : Int32) wp_md_laysRests_d158 wt_ci_1 ?_
            refine wt_iadd hE wp_md_laysRests_d159 ?_
            obtain ⟨g38, h⟩ := wt_gd h
            have lg38 := wt_lt g38
            refine wt_aald1 hE (hD 291 (by decide) (by decide)) wt_L291 g38 wp_md_laysRests_d160 ?_
            refine wt_iload hE wp_md_laysRests_d161 rfl ?_
            obtain ⟨g39, h⟩ := wt_gd h
            refine wt_iald hE (hD _ (by omega) (by omega)) (wt_G292 _ lg38) g39 wp_md_laysRests_d163 ?_
            refine wt_iload hE wp_md_laysRests_d164 rfl ?_
            refine wt_icmp_ge hE 183 wp_md_laysRests_d166 rfl (fun c40 => ?_) (fun c40 => ?_)
            · have h := wt_ip c40 h
              refine wt_iload hE wp_md_laysRests_d183 rfl ?_
              refine wt_wk [true, true, true, true, false, true] rfl ?_
              exact wp_md_laysRests_B185_ok hE hR hD hK9 hK15 hK97 h
            · have h := wt_in c40 h
              refine wt_wk [true, true, true, true, false, true] rfl ?_
              exact wp_md_laysRests_B169_ok hE hR hD hK9 hK15 hK97 h
        · have h := wt_ip c23 h
          refine wt_goto hE 247 wp_md_laysRests_d144 rfl ?_
          exact wp_md_laysRests_B247_ok hE hR hD hK9 hK15 hK97 h
noncomputable def wp_md_laysRests_B15 (n : Nat) (x1 : Int32) (x2 : Int32) (K9 : Int32 × wt_St → Option (wt_St)) (K15 : Int32 × wt_St → Option (wt_St)) (s : Int32 × wt_St) : Option (wt_St) :=
  if (wt_gf s.2 108 28) ≤ s.1 then
    K9 ((x2 + (-1 : Int32)), s.2)
  else
    if x2 < 0 ∨ 12 ≤ Int32.toNatClampNeg x2 then none else
    if s.1 < 0 ∨ 60 ≤ Int32.toNatClampNeg s.1 then none else
    if x2 < 0 ∨ 12 ≤ Int32.toNatClampNeg x2 then none else
    if s.1 < 0 ∨ 60 ≤ Int32.toNatClampNeg s.1 then none else
    (wp_md_isOf n s.1 x1 x2 (wt_sa (wt_sa s.2 (292 + Int32.toNatClampNeg x2) (Int32.toNatClampNeg s.1) (-1 : Int32)) (305 + Int32.toNatClampNeg x2) (Int32.toNatClampNeg s.1) (0 : Int32))).bind fun q8 =>
    if q8.1 = 0 then
      wp_md_laysRests_B279 n x1 x2 s.1 K9 K15 q8.2
    else
      if x1 < 0 ∨ 8 ≤ Int32.toNatClampNeg x1 then none else
      if x2 = ((wt_ga q8.2 253 (Int32.toNatClampNeg x1)) - (1 : Int32)) then
        if x2 < 0 ∨ 12 ≤ Int32.toNatClampNeg x2 then none else
        (wp_md_priceOf n s.1 q8.2).bind fun q42 =>
        if s.1 < 0 ∨ 60 ≤ Int32.toNatClampNeg s.1 then none else
        if x2 < 0 ∨ 12 ≤ Int32.toNatClampNeg x2 then none else
        if s.1 < 0 ∨ 60 ≤ Int32.toNatClampNeg s.1 then none else
        wp_md_laysRests_B279 n x1 x2 s.1 K9 K15 (wt_sa (wt_sa q42.2 (292 + Int32.toNatClampNeg x2) (Int32.toNatClampNeg s.1) q42.1) (305 + Int32.toNatClampNeg x2) (Int32.toNatClampNeg s.1) (1 : Int32))
      else
        wt_it (wp_md_laysRests_B97 n x1 x2 s.1 K9 K15) n ((-1 : Int32), (0 : Int32), q8.2)
set_option maxRecDepth 100000 in
set_option maxHeartbeats 4000000 in
theorem wp_md_laysRests_B15_ok  {x1 : Int32} {x2 : Int32} {X : wt_X} {n : Nat} {res : wt_St} (hE : wt_Ok X prog_13_method_66_code 6 "WornTypeModel" 1 0) (hR : wt_Rt X none none res) (hD : ∀ i, 108 ≤ i → i < 321 → wt_dom (wt_xw X) i)  {K9 : Int32 × wt_St → Option (wt_St)} (hK9 : ∀ s : Int32 × wt_St, K9 s = some res → wt_V X 0 s.2 9 [some (.ref (wt_ad (wt_xw X) 108)), some (.int x1), some (.int s.1), none, none, none] []) {K15 : Int32 × wt_St → Option (wt_St)} (hK15 : ∀ s : Int32 × wt_St, K15 s = some res → wt_V X 0 s.2 15 [some (.ref (wt_ad (wt_xw X) 108)), some (.int x1), some (.int x2), some (.int s.1), none, none] []) {s : Int32 × wt_St} (h : wp_md_laysRests_B15 n x1 x2 K9 K15 s = some res) : wt_V X 0 s.2 15 [some (.ref (wt_ad (wt_xw X) 108)), some (.int x1), some (.int x2), some (.int s.1), none, none] [] := by
  unfold wp_md_laysRests_B15 at h
  refine wt_iload_n hE wp_md_laysRests_d15 rfl ?_
  refine wt_aload_n hE wp_md_laysRests_d16 rfl ?_
  refine wt_geti hE wt_lf_md_259 (hD 108 (by decide) (by decide)) wt_L108 rfl wp_md_laysRests_d17 ?_
  refine wt_icmp_ge hE 285 wp_md_laysRests_d20 rfl (fun c3 => ?_) (fun c3 => ?_)
  · have h := wt_ip c3 h
    refine wt_iinc hE (x2 + (-1 : Int32)) [some (.ref (wt_ad (wt_xw X) 108)), some (.int x1), some (.int (x2 + (-1 : Int32))), some (.int s.1), none, none] wp_md_laysRests_d285 (by decide) rfl rfl rfl ?_
    refine wt_goto hE 9 wp_md_laysRests_d288 rfl ?_
    refine wt_wk [true, true, true, false, true, true] rfl ?_
    exact hK9 ((x2 + (-1 : Int32)), s.2) h
  · have h := wt_in c3 h
    refine wt_aload_n hE wp_md_laysRests_d23 rfl ?_
    refine wt_getr hE (r := 291) wt_lf_md_127 (hD 108 (by decide) (by decide)) wt_L108 rfl wp_md_laysRests_d24 ?_
    refine wt_iload_n hE wp_md_laysRests_d27 rfl ?_
    obtain ⟨g4, h⟩ := wt_gd h
    have lg4 := wt_lt g4
    refine wt_aald1 hE (hD 291 (by decide) (by decide)) wt_L291 g4 wp_md_laysRests_d28 ?_
    refine wt_iload_n hE wp_md_laysRests_d29 rfl ?_
    refine wt_iconst hE (-1 : Int32) wp_md_laysRests_d30 wt_ci_m1 ?_
    obtain ⟨g5, h⟩ := wt_gd h
    refine wt_iast hE (hD _ (by omega) (by omega)) (wt_G292 _ lg4) g5 wp_md_laysRests_d31 ?_
    refine wt_aload_n hE wp_md_laysRests_d32 rfl ?_
    refine wt_getr hE (r := 304) wt_lf_md_130 (hD 108 (by decide) (by decide)) wt_L108 rfl wp_md_laysRests_d33 ?_
    refine wt_iload_n hE wp_md_laysRests_d36 rfl ?_
    obtain ⟨g6, h⟩ := wt_gd h
    have lg6 := wt_lt g6
    refine wt_aald1 hE (hD 304 (by decide) (by decide)) wt_L304 g6 wp_md_laysRests_d37 ?_
    refine wt_iload_n hE wp_md_laysRests_d38 rfl ?_
    refine wt_iconst hE (0 : Int32) wp_md_laysRests_d39 wt_ci_0 ?_
    obtain ⟨g7, h⟩ := wt_gd h
    refine wt_iast hE (hD _ (by omega) (by omega)) (wt_G305 _ lg6) g7 wp_md_laysRests_d40 ?_
    refine wt_aload_n hE wp_md_laysRests_d41 rfl ?_
    refine wt_iload_n hE wp_md_laysRests_d42 rfl ?_
    refine wt_iload_n hE wp_md_laysRests_d43 rfl ?_
    refine wt_iload_n hE wp_md_laysRests_d44 rfl ?_
    obtain ⟨q8, hq8, h⟩ := wt_bi h
    refine wt_callVi hE [.int s.1, .int x1, .int x2] wt_lm_md_339 wt_ya_md_isOf (wp_md_isOf_ok hD hq8) (by omega) (hD 108 (by decide) (by decide)) wt_L108 rfl rfl rfl (Nat.le_of_ble_eq_true rfl) (Nat.zero_le _) wp_md_laysRests_d45 (fun hbq8 => ?_)
    refine wt_if_ne hE 54 wp_md_laysRests_d48 rfl (fun c9 => ?_) (fun c9 => ?_)
    · have h := wt_in c9 h
      refine wt_iload_n hE wp_md_laysRests_d54 rfl ?_
      refine wt_aload_n hE wp_md_laysRests_d55 rfl ?_
      refine wt_getr hE (r := 253) wt_lf_md_88 (hD 108 (by decide) (by decide)) wt_L108 rfl wp_md_laysRests_d56 ?_
      refine wt_iload_n hE wp_md_laysRests_d59 rfl ?_
      obtain ⟨g10, h⟩ := wt_gd h
      refine wt_iald hE (hD 253 (by decide) (by decide)) wt_L253 g10 wp_md_laysRests_d60 ?_
      refine wt_iconst hE (1 : Int32) wp_md_laysRests_d61 wt_ci_1 ?_
      refine wt_isub hE wp_md_laysRests_d62 ?_
      refine wt_icmp_ne hE 91 wp_md_laysRests_d63 rfl (fun c11 => ?_) (fun c11 => ?_)
      · have h := wt_in c11 h
        refine wt_iconst hE (-1 : Int32) wp_md_laysRests_d91 wt_ci_m1 ?_
        refine wt_istore hE [some (.ref (wt_ad (wt_xw X) 108)), some (.int x1), some (.int x2), some (.int s.1), some (.int (-1 : Int32)), none] wp_md_laysRests_d92 (Nat.le_of_ble_eq_true rfl) rfl ?_
        refine wt_iconst hE (0 : Int32) wp_md_laysRests_d94 wt_ci_0 ?_
        refine wt_istore hE [some (.ref (wt_ad (wt_xw X) 108)), some (.int x1), some (.int x2), some (.int s.1), some (.int (-1 : Int32)), some (.int (0 : Int32))] wp_md_laysRests_d95 (Nat.le_of_ble_eq_true rfl) rfl ?_
        exact wt_it_ind (fun z => wt_V X 0 z.2.2 97 [some (.ref (wt_ad (wt_xw X) 108)), some (.int x1), some (.int x2), some (.int s.1), some (.int z.1), some (.int z.2.1)] []) (fun K hK z h => wp_md_laysRests_B97_ok hE hR hD hK9 hK15 hK h) n ((-1 : Int32), (0 : Int32), q8.2) h
      · have h := wt_ip c11 h
        refine wt_aload_n hE wp_md_laysRests_d66 rfl ?_
        refine wt_getr hE (r := 291) wt_lf_md_127 (hD 108 (by decide) (by decide)) wt_L108 rfl wp_md_laysRests_d67 ?_
        refine wt_iload_n hE wp_md_laysRests_d70 rfl ?_
        obtain ⟨g41, h⟩ := wt_gd h
        have lg41 := wt_lt g41
        refine wt_aald1 hE (hD 291 (by decide) (by decide)) wt_L291 g41 wp_md_laysRests_d71 ?_
        refine wt_iload_n hE wp_md_laysRests_d72 rfl ?_
        refine wt_aload_n hE wp_md_laysRests_d73 rfl ?_
        refine wt_iload_n hE wp_md_laysRests_d74 rfl ?_
        obtain ⟨q42, hq42, h⟩ := wt_bi h
        refine wt_callVi hE [.int s.1] wt_lm_md_301 wt_ya_md_priceOf (wp_md_priceOf_ok hD hq42) (by omega) (hD 108 (by decide) (by decide)) wt_L108 rfl rfl rfl (Nat.le_of_ble_eq_true rfl) (Nat.zero_le _) wp_md_laysRests_d75 (fun hbq42 => ?_)
        obtain ⟨g43, h⟩ := wt_gd h
        refine wt_iast hE (hD _ (by omega) (by omega)) (wt_G292 _ lg41) g43 wp_md_laysRests_d78 ?_
        refine wt_aload_n hE wp_md_laysRests_d79 rfl ?_
        refine wt_getr hE (r := 304) wt_lf_md_130 (hD 108 (by decide) (by decide)) wt_L108 rfl wp_md_laysRests_d80 ?_
        refine wt_iload_n hE wp_md_laysRests_d83 rfl ?_
        obtain ⟨g44, h⟩ := wt_gd h
        have lg44 := wt_lt g44
        refine wt_aald1 hE (hD 304 (by decide) (by decide)) wt_L304 g44 wp_md_laysRests_d84 ?_
        refine wt_iload_n hE wp_md_laysRests_d85 rfl ?_
        refine wt_iconst hE (1 : Int32) wp_md_laysRests_d86 wt_ci_1 ?_
        obtain ⟨g45, h⟩ := wt_gd h
        refine wt_iast hE (hD _ (by omega) (by omega)) (wt_G305 _ lg44) g45 wp_md_laysRests_d87 ?_
        refine wt_goto hE 279 wp_md_laysRests_d88 rfl ?_
        exact wp_md_laysRests_B279_ok hE hR hD hK9 hK15 h
    · have h := wt_ip c9 h
      refine wt_goto hE 279 wp_md_laysRests_d51 rfl ?_
      exact wp_md_laysRests_B279_ok hE hR hD hK9 hK15 h
noncomputable def wp_md_laysRests_B9 (n : Nat) (x1 : Int32) (K9 : Int32 × wt_St → Option (wt_St)) (s : Int32 × wt_St) : Option (wt_St) :=
  if s.1 < 0 then
    some s.2
  else
    wt_it (wp_md_laysRests_B15 n x1 s.1 K9) n ((0 : Int32), s.2)
set_option maxRecDepth 100000 in
set_option maxHeartbeats 4000000 in
theorem wp_md_laysRests_B9_ok  {x1 : Int32} {X : wt_X} {n : Nat} {res : wt_St} (hE : wt_Ok X prog_13_method_66_code 6 "WornTypeModel" 1 0) (hR : wt_Rt X none none res) (hD : ∀ i, 108 ≤ i → i < 321 → wt_dom (wt_xw X) i)  {K9 : Int32 × wt_St → Option (wt_St)} (hK9 : ∀ s : Int32 × wt_St, K9 s = some res → wt_V X 0 s.2 9 [some (.ref (wt_ad (wt_xw X) 108)), some (.int x1), some (.int s.1), none, none, none] []) {s : Int32 × wt_St} (h : wp_md_laysRests_B9 n x1 K9 s = some res) : wt_V X 0 s.2 9 [some (.ref (wt_ad (wt_xw X) 108)), some (.int x1), some (.int s.1), none, none, none] [] := by
  unfold wp_md_laysRests_B9 at h
  refine wt_iload_n hE wp_md_laysRests_d9 rfl ?_
  refine wt_if_lt hE 291 wp_md_laysRests_d10 rfl (fun c2 => ?_) (fun c2 => ?_)
  · have h := wt_ip c2 h
    cases h
    exact wt_vret hE hR wp_md_laysRests_d291
  · have h := wt_in c2 h
    refine wt_iconst hE (0 : Int32) wp_md_laysRests_d13 wt_ci_0 ?_
    refine wt_istore_n hE [some (.ref (wt_ad (wt_xw X) 108)), some (.int x1), some (.int s.1), some (.int (0 : Int32)), none, none] wp_md_laysRests_d14 (by decide) rfl ?_
    exact wt_it_ind (fun z => wt_V X 0 z.2 15 [some (.ref (wt_ad (wt_xw X) 108)), some (.int x1), some (.int s.1), some (.int z.1), none, none] []) (fun K hK z h => wp_md_laysRests_B15_ok hE hR hD hK9 hK h) n ((0 : Int32), s.2) h
noncomputable def wp_md_laysRests (n : Nat) (x1 : Int32) (σ : wt_St) : Option (wt_St) :=
  if x1 < 0 ∨ 8 ≤ Int32.toNatClampNeg x1 then none else
  wt_it (wp_md_laysRests_B9 n x1) n (((wt_ga σ 253 (Int32.toNatClampNeg x1)) - (1 : Int32)), σ)
set_option maxRecDepth 100000 in
set_option maxHeartbeats 4000000 in
theorem wp_md_laysRests_ok {l : Launch} {w : wt_E} {n : Nat} {x1 : Int32} (hD : ∀ i, 108 ≤ i → i < 321 → wt_dom w i) {σ : wt_St} {q : wt_St} (h : wp_md_laysRests n x1 σ = some q) : wt_Ctr l w wt_y_md_laysRests prog_13_method_66_code 6 none 1 [.ref (wt_ad w 108), .int x1] σ none q := by
  refine wt_ctr wt_pl_md_laysRests rfl (Nat.le_of_ble_eq_true rfl) [some (.ref (wt_ad w 108)), some (.int x1), none, none, none, none] rfl ?_
  intro X hXl hXw hE hR
  subst hXl
  subst hXw
  have hE : wt_Ok X prog_13_method_66_code 6 "WornTypeModel" 1 0 := hE
  unfold wp_md_laysRests at h
  refine wt_aload_n hE wp_md_laysRests_d0 rfl ?_
  refine wt_getr hE (r := 253) wt_lf_md_88 (hD 108 (by decide) (by decide)) wt_L108 rfl wp_md_laysRests_d1 ?_
  refine wt_iload_n hE wp_md_laysRests_d4 rfl ?_
  obtain ⟨g1, h⟩ := wt_gd h
  refine wt_iald hE (hD 253 (by decide) (by decide)) wt_L253 g1 wp_md_laysRests_d5 ?_
  refine wt_iconst hE (1 : Int32) wp_md_laysRests_d6 wt_ci_1 ?_
  refine wt_isub hE wp_md_laysRests_d7 ?_
  refine wt_istore_n hE [some (.ref (wt_ad (wt_xw X) 108)), some (.int x1), some (.int ((wt_ga σ 253 (Int32.toNatClampNeg x1)) - (1 : Int32))), none, none, none] wp_md_laysRests_d8 (by decide) rfl ?_
  exact wt_it_ind (fun z => wt_V X 0 z.2 9 [some (.ref (wt_ad (wt_xw X) 108)), some (.int x1), some (.int z.1), none, none, none] []) (fun K hK z h => wp_md_laysRests_B9_ok hE hR hD hK h) n (((wt_ga σ 253 (Int32.toNatClampNeg x1)) - (1 : Int32)), σ) h
def wb17m7_prog_13_method_67_code_r9 : List (List Nat) := [28, 46, 167, 0, 4, 2, 172] :: []
def wb17m7_prog_13_method_67_code_r8 : List (List Nat) := [29, 154, 0, 8, 21, 4, 167, 0, 29, 28, 3, 42, 180, 0, 88, 27, 46, 4, 100, 184, 0, 185, 153, 0, 12, 42, 180, 0, 133] :: wb17m7_prog_13_method_67_code_r9
def wb17m7_prog_13_method_67_code_r7 : List (List Nat) := [50, 21, 7, 46, 167, 0, 5, 21, 4, 54, 4, 42, 180, 0, 133, 21, 6, 21, 7, 79, 21, 7, 54, 5, 132, 6, 1, 167, 255, 94] :: wb17m7_prog_13_method_67_code_r8
def wb17m7_prog_13_method_67_code_r6 : List (List Nat) := [21, 7, 54, 7, 132, 8, 1, 167, 255, 160, 21, 7, 2, 160, 0, 5, 2, 172, 21, 6, 154, 0, 16, 42, 180, 0, 127, 21, 6] :: wb17m7_prog_13_method_67_code_r7
def wb17m7_prog_13_method_67_code_r5 : List (List Nat) := [42, 180, 0, 127, 21, 6, 50, 21, 8, 46, 42, 180, 0, 127, 21, 6, 50, 21, 7, 46, 162, 0, 8, 21, 8, 167, 0, 5] :: wb17m7_prog_13_method_67_code_r6
def wb17m7_prog_13_method_67_code_r4 : List (List Nat) := [2, 159, 0, 61, 21, 5, 2, 159, 0, 17, 42, 21, 5, 21, 8, 182, 1, 86, 154, 0, 6, 167, 0, 41, 21, 7, 2, 159, 0, 26] :: wb17m7_prog_13_method_67_code_r5
def wb17m7_prog_13_method_67_code_r3 : List (List Nat) := [180, 1, 3, 162, 0, 93, 42, 21, 8, 27, 21, 6, 182, 1, 83, 153, 0, 75, 42, 180, 0, 127, 21, 6, 50, 21, 8, 46] :: wb17m7_prog_13_method_67_code_r4
def wb17m7_prog_13_method_67_code_r2 : List (List Nat) := [54, 4, 2, 54, 5, 3, 54, 6, 21, 6, 42, 180, 0, 88, 27, 46, 162, 0, 157, 2, 54, 7, 3, 54, 8, 21, 8, 42] :: wb17m7_prog_13_method_67_code_r3
def wb17m7_prog_13_method_67_code_r1 : List (List Nat) := [3, 4, 184, 0, 185, 154, 0, 7, 4, 167, 0, 4, 3, 5, 182, 0, 230, 153, 0, 5, 3, 172, 42, 27, 182, 1, 90, 2] :: wb17m7_prog_13_method_67_code_r2
def wb17m7_prog_13_method_67_code_r0 : List (List Nat) := [42, 3, 181, 0, 151, 42, 42, 27, 182, 1, 51, 154, 0, 7, 4, 167, 0, 4, 3, 4, 182, 0, 230, 154, 0, 25, 42, 29] :: wb17m7_prog_13_method_67_code_r1
set_option maxRecDepth 100000 in
theorem wb17m7_prog_13_method_67_code_c0 : wt_cs prog_13_method_67_code 0 wb17m7_prog_13_method_67_code_r0 := wt_cs_of (by decide +kernel)
theorem wb17m7_prog_13_method_67_code_c1 : wt_cs prog_13_method_67_code 28 wb17m7_prog_13_method_67_code_r1 := wt_cs_tl (m := 28) wb17m7_prog_13_method_67_code_c0 rfl rfl
theorem wb17m7_prog_13_method_67_code_c2 : wt_cs prog_13_method_67_code 56 wb17m7_prog_13_method_67_code_r2 := wt_cs_tl (m := 28) wb17m7_prog_13_method_67_code_c1 rfl rfl
theorem wb17m7_prog_13_method_67_code_c3 : wt_cs prog_13_method_67_code 84 wb17m7_prog_13_method_67_code_r3 := wt_cs_tl (m := 28) wb17m7_prog_13_method_67_code_c2 rfl rfl
theorem wb17m7_prog_13_method_67_code_c4 : wt_cs prog_13_method_67_code 112 wb17m7_prog_13_method_67_code_r4 := wt_cs_tl (m := 28) wb17m7_prog_13_method_67_code_c3 rfl rfl
theorem wb17m7_prog_13_method_67_code_c5 : wt_cs prog_13_method_67_code 142 wb17m7_prog_13_method_67_code_r5 := wt_cs_tl (m := 30) wb17m7_prog_13_method_67_code_c4 rfl rfl
theorem wb17m7_prog_13_method_67_code_c6 : wt_cs prog_13_method_67_code 170 wb17m7_prog_13_method_67_code_r6 := wt_cs_tl (m := 28) wb17m7_prog_13_method_67_code_c5 rfl rfl
theorem wb17m7_prog_13_method_67_code_c7 : wt_cs prog_13_method_67_code 199 wb17m7_prog_13_method_67_code_r7 := wt_cs_tl (m := 29) wb17m7_prog_13_method_67_code_c6 rfl rfl
theorem wb17m7_prog_13_method_67_code_c8 : wt_cs prog_13_method_67_code 229 wb17m7_prog_13_method_67_code_r8 := wt_cs_tl (m := 30) wb17m7_prog_13_method_67_code_c7 rfl rfl
theorem wb17m7_prog_13_method_67_code_c9 : wt_cs prog_13_method_67_code 258 wb17m7_prog_13_method_67_code_r9 := wt_cs_tl (m := 29) wb17m7_prog_13_method_67_code_c8 rfl rfl
theorem wp_md_least_d0 : decode prog_13_method_67_code 0 = .ok (.aload_n 0, 1) := wt_op42 wb17m7_prog_13_method_67_code_c0 0 rfl rfl
theorem wp_md_least_d1 : decode prog_13_method_67_code 1 = .ok (.iconst 0, 1) := wt_op3 wb17m7_prog_13_method_67_code_c0 1 rfl rfl
theorem wp_md_least_d2 : decode prog_13_method_67_code 2 = .ok (.putfield 151, 3) := wt_op181 wb17m7_prog_13_method_67_code_c0 2 rfl rfl rfl
theorem wp_md_least_d5 : decode prog_13_method_67_code 5 = .ok (.aload_n 0, 1) := wt_op42 wb17m7_prog_13_method_67_code_c0 5 rfl rfl
theorem wp_md_least_d6 : decode prog_13_method_67_code 6 = .ok (.aload_n 0, 1) := wt_op42 wb17m7_prog_13_method_67_code_c0 6 rfl rfl
theorem wp_md_least_d7 : decode prog_13_method_67_code 7 = .ok (.iload_n 1, 1) := wt_op27 wb17m7_prog_13_method_67_code_c0 7 rfl rfl
theorem wp_md_least_d8 : decode prog_13_method_67_code 8 = .ok (.invokevirtual 307, 3) := wt_op182 wb17m7_prog_13_method_67_code_c0 8 rfl rfl rfl
theorem wp_md_least_d11 : decode prog_13_method_67_code 11 = .ok (.ifCond .ne 7, 3) := wt_op154 wb17m7_prog_13_method_67_code_c0 11 rfl rfl rfl
theorem wp_md_least_d14 : decode prog_13_method_67_code 14 = .ok (.iconst 1, 1) := wt_op4 wb17m7_prog_13_method_67_code_c0 14 rfl rfl
theorem wp_md_least_d15 : decode prog_13_method_67_code 15 = .ok (.goto 4, 3) := wt_op167 wb17m7_prog_13_method_67_code_c0 15 rfl rfl rfl
theorem wp_md_least_d18 : decode prog_13_method_67_code 18 = .ok (.iconst 0, 1) := wt_op3 wb17m7_prog_13_method_67_code_c0 18 rfl rfl
theorem wp_md_least_d19 : decode prog_13_method_67_code 19 = .ok (.iconst 1, 1) := wt_op4 wb17m7_prog_13_method_67_code_c0 19 rfl rfl
theorem wp_md_least_d20 : decode prog_13_method_67_code 20 = .ok (.invokevirtual 230, 3) := wt_op182 wb17m7_prog_13_method_67_code_c0 20 rfl rfl rfl
theorem wp_md_least_d23 : decode prog_13_method_67_code 23 = .ok (.ifCond .ne 25, 3) := wt_op154 wb17m7_prog_13_method_67_code_c0 23 rfl rfl rfl
theorem wp_md_least_d26 : decode prog_13_method_67_code 26 = .ok (.aload_n 0, 1) := wt_op42 wb17m7_prog_13_method_67_code_c0 26 rfl rfl
theorem wp_md_least_d27 : decode prog_13_method_67_code 27 = .ok (.iload_n 3, 1) := wt_op29 wb17m7_prog_13_method_67_code_c0 27 rfl rfl
theorem wp_md_least_d28 : decode prog_13_method_67_code 28 = .ok (.iconst 0, 1) := wt_op3 wb17m7_prog_13_method_67_code_c1 0 rfl rfl
theorem wp_md_least_d29 : decode prog_13_method_67_code 29 = .ok (.iconst 1, 1) := wt_op4 wb17m7_prog_13_method_67_code_c1 1 rfl rfl
theorem wp_md_least_d30 : decode prog_13_method_67_code 30 = .ok (.invokestatic 185, 3) := wt_op184 wb17m7_prog_13_method_67_code_c1 2 rfl rfl rfl
theorem wp_md_least_d33 : decode prog_13_method_67_code 33 = .ok (.ifCond .ne 7, 3) := wt_op154 wb17m7_prog_13_method_67_code_c1 5 rfl rfl rfl
theorem wp_md_least_d36 : decode prog_13_method_67_code 36 = .ok (.iconst 1, 1) := wt_op4 wb17m7_prog_13_method_67_code_c1 8 rfl rfl
theorem wp_md_least_d37 : decode prog_13_method_67_code 37 = .ok (.goto 4, 3) := wt_op167 wb17m7_prog_13_method_67_code_c1 9 rfl rfl rfl
theorem wp_md_least_d40 : decode prog_13_method_67_code 40 = .ok (.iconst 0, 1) := wt_op3 wb17m7_prog_13_method_67_code_c1 12 rfl rfl
theorem wp_md_least_d41 : decode prog_13_method_67_code 41 = .ok (.iconst 2, 1) := wt_op5 wb17m7_prog_13_method_67_code_c1 13 rfl rfl
theorem wp_md_least_d42 : decode prog_13_method_67_code 42 = .ok (.invokevirtual 230, 3) := wt_op182 wb17m7_prog_13_method_67_code_c1 14 rfl rfl rfl
theorem wp_md_least_d45 : decode prog_13_method_67_code 45 = .ok (.ifCond .eq 5, 3) := wt_op153 wb17m7_prog_13_method_67_code_c1 17 rfl rfl rfl
theorem wp_md_least_d48 : decode prog_13_method_67_code 48 = .ok (.iconst 0, 1) := wt_op3 wb17m7_prog_13_method_67_code_c1 20 rfl rfl
theorem wp_md_least_d49 : decode prog_13_method_67_code 49 = .ok (.ireturn, 1) := wt_op172 wb17m7_prog_13_method_67_code_c1 21 rfl rfl
theorem wp_md_least_d50 : decode prog_13_method_67_code 50 = .ok (.aload_n 0, 1) := wt_op42 wb17m7_prog_13_method_67_code_c1 22 rfl rfl
theorem wp_md_least_d51 : decode prog_13_method_67_code 51 = .ok (.iload_n 1, 1) := wt_op27 wb17m7_prog_13_method_67_code_c1 23 rfl rfl
theorem wp_md_least_d52 : decode prog_13_method_67_code 52 = .ok (.invokevirtual 346, 3) := wt_op182 wb17m7_prog_13_method_67_code_c1 24 rfl rfl rfl
theorem wp_md_least_d55 : decode prog_13_method_67_code 55 = .ok (.iconst (-1), 1) := wt_op2 wb17m7_prog_13_method_67_code_c1 27 rfl rfl
theorem wp_md_least_d56 : decode prog_13_method_67_code 56 = .ok (.istore 4, 2) := wt_op54 wb17m7_prog_13_method_67_code_c2 0 rfl rfl
theorem wp_md_least_d58 : decode prog_13_method_67_code 58 = .ok (.iconst (-1), 1) := wt_op2 wb17m7_prog_13_method_67_code_c2 2 rfl rfl
theorem wp_md_least_d59 : decode prog_13_method_67_code 59 = .ok (.istore 5, 2) := wt_op54 wb17m7_prog_13_method_67_code_c2 3 rfl rfl
theorem wp_md_least_d61 : decode prog_13_method_67_code 61 = .ok (.iconst 0, 1) := wt_op3 wb17m7_prog_13_method_67_code_c2 5 rfl rfl
theorem wp_md_least_d62 : decode prog_13_method_67_code 62 = .ok (.istore 6, 2) := wt_op54 wb17m7_prog_13_method_67_code_c2 6 rfl rfl
theorem wp_md_least_d64 : decode prog_13_method_67_code 64 = .ok (.iload 6, 2) := wt_op21 wb17m7_prog_13_method_67_code_c2 8 rfl rfl
theorem wp_md_least_d66 : decode prog_13_method_67_code 66 = .ok (.aload_n 0, 1) := wt_op42 wb17m7_prog_13_method_67_code_c2 10 rfl rfl
theorem wp_md_least_d67 : decode prog_13_method_67_code 67 = .ok (.getfield 88, 3) := wt_op180 wb17m7_prog_13_method_67_code_c2 11 rfl rfl rfl
theorem wp_md_least_d70 : decode prog_13_method_67_code 70 = .ok (.iload_n 1, 1) := wt_op27 wb17m7_prog_13_method_67_code_c2 14 rfl rfl
theorem wp_md_least_d71 : decode prog_13_method_67_code 71 = .ok (.iaload, 1) := wt_op46 wb17m7_prog_13_method_67_code_c2 15 rfl rfl
theorem wp_md_least_d72 : decode prog_13_method_67_code 72 = .ok (.if_icmp .ge 157, 3) := wt_op162 wb17m7_prog_13_method_67_code_c2 16 rfl rfl rfl
theorem wp_md_least_d75 : decode prog_13_method_67_code 75 = .ok (.iconst (-1), 1) := wt_op2 wb17m7_prog_13_method_67_code_c2 19 rfl rfl
theorem wp_md_least_d76 : decode prog_13_method_67_code 76 = .ok (.istore 7, 2) := wt_op54 wb17m7_prog_13_method_67_code_c2 20 rfl rfl
theorem wp_md_least_d78 : decode prog_13_method_67_code 78 = .ok (.iconst 0, 1) := wt_op3 wb17m7_prog_13_method_67_code_c2 22 rfl rfl
theorem wp_md_least_d79 : decode prog_13_method_67_code 79 = .ok (.istore 8, 2) := wt_op54 wb17m7_prog_13_method_67_code_c2 23 rfl rfl
theorem wp_md_least_d81 : decode prog_13_method_67_code 81 = .ok (.iload 8, 2) := wt_op21 wb17m7_prog_13_method_67_code_c2 25 rfl rfl
theorem wp_md_least_d83 : decode prog_13_method_67_code 83 = .ok (.aload_n 0, 1) := wt_op42 wb17m7_prog_13_method_67_code_c2 27 rfl rfl
theorem wp_md_least_d84 : decode prog_13_method_67_code 84 = .ok (.getfield 259, 3) := wt_op180 wb17m7_prog_13_method_67_code_c3 0 rfl rfl rfl
theorem wp_md_least_d87 : decode prog_13_method_67_code 87 = .ok (.if_icmp .ge 93, 3) := wt_op162 wb17m7_prog_13_method_67_code_c3 3 rfl rfl rfl
theorem wp_md_least_d90 : decode prog_13_method_67_code 90 = .ok (.aload_n 0, 1) := wt_op42 wb17m7_prog_13_method_67_code_c3 6 rfl rfl
theorem wp_md_least_d91 : decode prog_13_method_67_code 91 = .ok (.iload 8, 2) := wt_op21 wb17m7_prog_13_method_67_code_c3 7 rfl rfl
theorem wp_md_least_d93 : decode prog_13_method_67_code 93 = .ok (.iload_n 1, 1) := wt_op27 wb17m7_prog_13_method_67_code_c3 9 rfl rfl
theorem wp_md_least_d94 : decode prog_13_method_67_code 94 = .ok (.iload 6, 2) := wt_op21 wb17m7_prog_13_method_67_code_c3 10 rfl rfl
theorem wp_md_least_d96 : decode prog_13_method_67_code 96 = .ok (.invokevirtual 339, 3) := wt_op182 wb17m7_prog_13_method_67_code_c3 12 rfl rfl rfl
theorem wp_md_least_d99 : decode prog_13_method_67_code 99 = .ok (.ifCond .eq 75, 3) := wt_op153 wb17m7_prog_13_method_67_code_c3 15 rfl rfl rfl
theorem wp_md_least_d102 : decode prog_13_method_67_code 102 = .ok (.aload_n 0, 1) := wt_op42 wb17m7_prog_13_method_67_code_c3 18 rfl rfl
theorem wp_md_least_d103 : decode prog_13_method_67_code 103 = .ok (.getfield 127, 3) := wt_op180 wb17m7_prog_13_method_67_code_c3 19 rfl rfl rfl
theorem wp_md_least_d106 : decode prog_13_method_67_code 106 = .ok (.iload 6, 2) := wt_op21 wb17m7_prog_13_method_67_code_c3 22 rfl rfl
theorem wp_md_least_d108 : decode prog_13_method_67_code 108 = .ok (.aaload, 1) := wt_op50 wb17m7_prog_13_method_67_code_c3 24 rfl rfl
theorem wp_md_least_d109 : decode prog_13_method_67_code 109 = .ok (.iload 8, 2) := wt_op21 wb17m7_prog_13_method_67_code_c3 25 rfl rfl
theorem wp_md_least_d111 : decode prog_13_method_67_code 111 = .ok (.iaload, 1) := wt_op46 wb17m7_prog_13_method_67_code_c3 27 rfl rfl
theorem wp_md_least_d112 : decode prog_13_method_67_code 112 = .ok (.iconst (-1), 1) := wt_op2 wb17m7_prog_13_method_67_code_c4 0 rfl rfl
theorem wp_md_least_d113 : decode prog_13_method_67_code 113 = .ok (.if_icmp .eq 61, 3) := wt_op159 wb17m7_prog_13_method_67_code_c4 1 rfl rfl rfl
theorem wp_md_least_d116 : decode prog_13_method_67_code 116 = .ok (.iload 5, 2) := wt_op21 wb17m7_prog_13_method_67_code_c4 4 rfl rfl
theorem wp_md_least_d118 : decode prog_13_method_67_code 118 = .ok (.iconst (-1), 1) := wt_op2 wb17m7_prog_13_method_67_code_c4 6 rfl rfl
theorem wp_md_least_d119 : decode prog_13_method_67_code 119 = .ok (.if_icmp .eq 17, 3) := wt_op159 wb17m7_prog_13_method_67_code_c4 7 rfl rfl rfl
theorem wp_md_least_d122 : decode prog_13_method_67_code 122 = .ok (.aload_n 0, 1) := wt_op42 wb17m7_prog_13_method_67_code_c4 10 rfl rfl
theorem wp_md_least_d123 : decode prog_13_method_67_code 123 = .ok (.iload 5, 2) := wt_op21 wb17m7_prog_13_method_67_code_c4 11 rfl rfl
theorem wp_md_least_d125 : decode prog_13_method_67_code 125 = .ok (.iload 8, 2) := wt_op21 wb17m7_prog_13_method_67_code_c4 13 rfl rfl
theorem wp_md_least_d127 : decode prog_13_method_67_code 127 = .ok (.invokevirtual 342, 3) := wt_op182 wb17m7_prog_13_method_67_code_c4 15 rfl rfl rfl
theorem wp_md_least_d130 : decode prog_13_method_67_code 130 = .ok (.ifCond .ne 6, 3) := wt_op154 wb17m7_prog_13_method_67_code_c4 18 rfl rfl rfl
theorem wp_md_least_d133 : decode prog_13_method_67_code 133 = .ok (.goto 41, 3) := wt_op167 wb17m7_prog_13_method_67_code_c4 21 rfl rfl rfl
theorem wp_md_least_d136 : decode prog_13_method_67_code 136 = .ok (.iload 7, 2) := wt_op21 wb17m7_prog_13_method_67_code_c4 24 rfl rfl
theorem wp_md_least_d138 : decode prog_13_method_67_code 138 = .ok (.iconst (-1), 1) := wt_op2 wb17m7_prog_13_method_67_code_c4 26 rfl rfl
theorem wp_md_least_d139 : decode prog_13_method_67_code 139 = .ok (.if_icmp .eq 26, 3) := wt_op159 wb17m7_prog_13_method_67_code_c4 27 rfl rfl rfl
theorem wp_md_least_d142 : decode prog_13_method_67_code 142 = .ok (.aload_n 0, 1) := wt_op42 wb17m7_prog_13_method_67_code_c5 0 rfl rfl
theorem wp_md_least_d143 : decode prog_13_method_67_code 143 = .ok (.getfield 127, 3) := wt_op180 wb17m7_prog_13_method_67_code_c5 1 rfl rfl rfl
theorem wp_md_least_d146 : decode prog_13_method_67_code 146 = .ok (.iload 6, 2) := wt_op21 wb17m7_prog_13_method_67_code_c5 4 rfl rfl
theorem wp_md_least_d148 : decode prog_13_method_67_code 148 = .ok (.aaload, 1) := wt_op50 wb17m7_prog_13_method_67_code_c5 6 rfl rfl
theorem wp_md_least_d149 : decode prog_13_method_67_code 149 = .ok (.iload 8, 2) := wt_op21 wb17m7_prog_13_method_67_code_c5 7 rfl rfl
theorem wp_md_least_d151 : decode prog_13_method_67_code 151 = .ok (.iaload, 1) := wt_op46 wb17m7_prog_13_method_67_code_c5 9 rfl rfl
theorem wp_md_least_d152 : decode prog_13_method_67_code 152 = .ok (.aload_n 0, 1) := wt_op42 wb17m7_prog_13_method_67_code_c5 10 rfl rfl
theorem wp_md_least_d153 : decode prog_13_method_67_code 153 = .ok (.getfield 127, 3) := wt_op180 wb17m7_prog_13_method_67_code_c5 11 rfl rfl rfl
theorem wp_md_least_d156 : decode prog_13_method_67_code 156 = .ok (.iload 6, 2) := wt_op21 wb17m7_prog_13_method_67_code_c5 14 rfl rfl
theorem wp_md_least_d158 : decode prog_13_method_67_code 158 = .ok (.aaload, 1) := wt_op50 wb17m7_prog_13_method_67_code_c5 16 rfl rfl
theorem wp_md_least_d159 : decode prog_13_method_67_code 159 = .ok (.iload 7, 2) := wt_op21 wb17m7_prog_13_method_67_code_c5 17 rfl rfl
theorem wp_md_least_d161 : decode prog_13_method_67_code 161 = .ok (.iaload, 1) := wt_op46 wb17m7_prog_13_method_67_code_c5 19 rfl rfl
theorem wp_md_least_d162 : decode prog_13_method_67_code 162 = .ok (.if_icmp .ge 8, 3) := wt_op162 wb17m7_prog_13_method_67_code_c5 20 rfl rfl rfl
theorem wp_md_least_d165 : decode prog_13_method_67_code 165 = .ok (.iload 8, 2) := wt_op21 wb17m7_prog_13_method_67_code_c5 23 rfl rfl
theorem wp_md_least_d167 : decode prog_13_method_67_code 167 = .ok (.goto 5, 3) := wt_op167 wb17m7_prog_13_method_67_code_c5 25 rfl rfl rfl
theorem wp_md_least_d170 : decode prog_13_method_67_code 170 = .ok (.iload 7, 2) := wt_op21 wb17m7_prog_13_method_67_code_c6 0 rfl rfl
theorem wp_md_least_d172 : decode prog_13_method_67_code 172 = .ok (.istore 7, 2) := wt_op54 wb17m7_prog_13_method_67_code_c6 2 rfl rfl
theorem wp_md_least_d174 : decode prog_13_method_67_code 174 = .ok (.iinc 8 1, 3) := wt_op132 wb17m7_prog_13_method_67_code_c6 4 rfl rfl rfl
theorem wp_md_least_d177 : decode prog_13_method_67_code 177 = .ok (.goto (-96), 3) := wt_op167 wb17m7_prog_13_method_67_code_c6 7 rfl rfl rfl
theorem wp_md_least_d180 : decode prog_13_method_67_code 180 = .ok (.iload 7, 2) := wt_op21 wb17m7_prog_13_method_67_code_c6 10 rfl rfl
theorem wp_md_least_d182 : decode prog_13_method_67_code 182 = .ok (.iconst (-1), 1) := wt_op2 wb17m7_prog_13_method_67_code_c6 12 rfl rfl
theorem wp_md_least_d183 : decode prog_13_method_67_code 183 = .ok (.if_icmp .ne 5, 3) := wt_op160 wb17m7_prog_13_method_67_code_c6 13 rfl rfl rfl
theorem wp_md_least_d186 : decode prog_13_method_67_code 186 = .ok (.iconst (-1), 1) := wt_op2 wb17m7_prog_13_method_67_code_c6 16 rfl rfl
theorem wp_md_least_d187 : decode prog_13_method_67_code 187 = .ok (.ireturn, 1) := wt_op172 wb17m7_prog_13_method_67_code_c6 17 rfl rfl
theorem wp_md_least_d188 : decode prog_13_method_67_code 188 = .ok (.iload 6, 2) := wt_op21 wb17m7_prog_13_method_67_code_c6 18 rfl rfl
theorem wp_md_least_d190 : decode prog_13_method_67_code 190 = .ok (.ifCond .ne 16, 3) := wt_op154 wb17m7_prog_13_method_67_code_c6 20 rfl rfl rfl
theorem wp_md_least_d193 : decode prog_13_method_67_code 193 = .ok (.aload_n 0, 1) := wt_op42 wb17m7_prog_13_method_67_code_c6 23 rfl rfl
theorem wp_md_least_d194 : decode prog_13_method_67_code 194 = .ok (.getfield 127, 3) := wt_op180 wb17m7_prog_13_method_67_code_c6 24 rfl rfl rfl
theorem wp_md_least_d197 : decode prog_13_method_67_code 197 = .ok (.iload 6, 2) := wt_op21 wb17m7_prog_13_method_67_code_c6 27 rfl rfl
theorem wp_md_least_d199 : decode prog_13_method_67_code 199 = .ok (.aaload, 1) := wt_op50 wb17m7_prog_13_method_67_code_c7 0 rfl rfl
theorem wp_md_least_d200 : decode prog_13_method_67_code 200 = .ok (.iload 7, 2) := wt_op21 wb17m7_prog_13_method_67_code_c7 1 rfl rfl
theorem wp_md_least_d202 : decode prog_13_method_67_code 202 = .ok (.iaload, 1) := wt_op46 wb17m7_prog_13_method_67_code_c7 3 rfl rfl
theorem wp_md_least_d203 : decode prog_13_method_67_code 203 = .ok (.goto 5, 3) := wt_op167 wb17m7_prog_13_method_67_code_c7 4 rfl rfl rfl
theorem wp_md_least_d206 : decode prog_13_method_67_code 206 = .ok (.iload 4, 2) := wt_op21 wb17m7_prog_13_method_67_code_c7 7 rfl rfl
theorem wp_md_least_d208 : decode prog_13_method_67_code 208 = .ok (.istore 4, 2) := wt_op54 wb17m7_prog_13_method_67_code_c7 9 rfl rfl
theorem wp_md_least_d210 : decode prog_13_method_67_code 210 = .ok (.aload_n 0, 1) := wt_op42 wb17m7_prog_13_method_67_code_c7 11 rfl rfl
theorem wp_md_least_d211 : decode prog_13_method_67_code 211 = .ok (.getfield 133, 3) := wt_op180 wb17m7_prog_13_method_67_code_c7 12 rfl rfl rfl
theorem wp_md_least_d214 : decode prog_13_method_67_code 214 = .ok (.iload 6, 2) := wt_op21 wb17m7_prog_13_method_67_code_c7 15 rfl rfl
theorem wp_md_least_d216 : decode prog_13_method_67_code 216 = .ok (.iload 7, 2) := wt_op21 wb17m7_prog_13_method_67_code_c7 17 rfl rfl
theorem wp_md_least_d218 : decode prog_13_method_67_code 218 = .ok (.iastore, 1) := wt_op79 wb17m7_prog_13_method_67_code_c7 19 rfl rfl
theorem wp_md_least_d219 : decode prog_13_method_67_code 219 = .ok (.iload 7, 2) := wt_op21 wb17m7_prog_13_method_67_code_c7 20 rfl rfl
theorem wp_md_least_d221 : decode prog_13_method_67_code 221 = .ok (.istore 5, 2) := wt_op54 wb17m7_prog_13_method_67_code_c7 22 rfl rfl
theorem wp_md_least_d223 : decode prog_13_method_67_code 223 = .ok (.iinc 6 1, 3) := wt_op132 wb17m7_prog_13_method_67_code_c7 24 rfl rfl rfl
theorem wp_md_least_d226 : decode prog_13_method_67_code 226 = .ok (.goto (-162), 3) := wt_op167 wb17m7_prog_13_method_67_code_c7 27 rfl rfl rfl
theorem wp_md_least_d229 : decode prog_13_method_67_code 229 = .ok (.iload_n 3, 1) := wt_op29 wb17m7_prog_13_method_67_code_c8 0 rfl rfl
theorem wp_md_least_d230 : decode prog_13_method_67_code 230 = .ok (.ifCond .ne 8, 3) := wt_op154 wb17m7_prog_13_method_67_code_c8 1 rfl rfl rfl
theorem wp_md_least_d233 : decode prog_13_method_67_code 233 = .ok (.iload 4, 2) := wt_op21 wb17m7_prog_13_method_67_code_c8 4 rfl rfl
theorem wp_md_least_d235 : decode prog_13_method_67_code 235 = .ok (.goto 29, 3) := wt_op167 wb17m7_prog_13_method_67_code_c8 6 rfl rfl rfl
theorem wp_md_least_d238 : decode prog_13_method_67_code 238 = .ok (.iload_n 2, 1) := wt_op28 wb17m7_prog_13_method_67_code_c8 9 rfl rfl
theorem wp_md_least_d239 : decode prog_13_method_67_code 239 = .ok (.iconst 0, 1) := wt_op3 wb17m7_prog_13_method_67_code_c8 10 rfl rfl
theorem wp_md_least_d240 : decode prog_13_method_67_code 240 = .ok (.aload_n 0, 1) := wt_op42 wb17m7_prog_13_method_67_code_c8 11 rfl rfl
theorem wp_md_least_d241 : decode prog_13_method_67_code 241 = .ok (.getfield 88, 3) := wt_op180 wb17m7_prog_13_method_67_code_c8 12 rfl rfl rfl
theorem wp_md_least_d244 : decode prog_13_method_67_code 244 = .ok (.iload_n 1, 1) := wt_op27 wb17m7_prog_13_method_67_code_c8 15 rfl rfl
theorem wp_md_least_d245 : decode prog_13_method_67_code 245 = .ok (.iaload, 1) := wt_op46 wb17m7_prog_13_method_67_code_c8 16 rfl rfl
theorem wp_md_least_d246 : decode prog_13_method_67_code 246 = .ok (.iconst 1, 1) := wt_op4 wb17m7_prog_13_method_67_code_c8 17 rfl rfl
theorem wp_md_least_d247 : decode prog_13_method_67_code 247 = .ok (.isub, 1) := wt_op100 wb17m7_prog_13_method_67_code_c8 18 rfl rfl
theorem wp_md_least_d248 : decode prog_13_method_67_code 248 = .ok (.invokestatic 185, 3) := wt_op184 wb17m7_prog_13_method_67_code_c8 19 rfl rfl rfl
theorem wp_md_least_d251 : decode prog_13_method_67_code 251 = .ok (.ifCond .eq 12, 3) := wt_op153 wb17m7_prog_13_method_67_code_c8 22 rfl rfl rfl
theorem wp_md_least_d254 : decode prog_13_method_67_code 254 = .ok (.aload_n 0, 1) := wt_op42 wb17m7_prog_13_method_67_code_c8 25 rfl rfl
theorem wp_md_least_d255 : decode prog_13_method_67_code 255 = .ok (.getfield 133, 3) := wt_op180 wb17m7_prog_13_method_67_code_c8 26 rfl rfl rfl
theorem wp_md_least_d258 : decode prog_13_method_67_code 258 = .ok (.iload_n 2, 1) := wt_op28 wb17m7_prog_13_method_67_code_c9 0 rfl rfl
theorem wp_md_least_d259 : decode prog_13_method_67_code 259 = .ok (.iaload, 1) := wt_op46 wb17m7_prog_13_method_67_code_c9 1 rfl rfl
theorem wp_md_least_d260 : decode prog_13_method_67_code 260 = .ok (.goto 4, 3) := wt_op167 wb17m7_prog_13_method_67_code_c9 2 rfl rfl rfl
theorem wp_md_least_d263 : decode prog_13_method_67_code 263 = .ok (.iconst (-1), 1) := wt_op2 wb17m7_prog_13_method_67_code_c9 5 rfl rfl
theorem wp_md_least_d264 : decode prog_13_method_67_code 264 = .ok (.ireturn, 1) := wt_op172 wb17m7_prog_13_method_67_code_c9 6 rfl rfl
noncomputable def wp_md_least_B208 (n : Nat) (x1 : Int32) (x2 : Int32) (x3 : Int32) (x6 : Int32) (x7 : Int32) (K64 : Int32 × Int32 × Int32 × wt_St → Option (Int32 × wt_St)) (y0 : Int32) (σ : wt_St) : Option (Int32 × wt_St) :=
  if x6 < 0 ∨ 12 ≤ Int32.toNatClampNeg x6 then none else
  K64 (y0, x7, (x6 + (1 : Int32)), (wt_sa σ 317 (Int32.toNatClampNeg x6) x7))
set_option maxRecDepth 100000 in
set_option maxHeartbeats 4000000 in
theorem wp_md_least_B208_ok  {x1 : Int32} {x2 : Int32} {x3 : Int32} {x6 : Int32} {x7 : Int32} {X : wt_X} {n : Nat} {res : Int32 × wt_St} (hE : wt_Ok X prog_13_method_67_code 9 "WornTypeModel" 2 0) (hR : wt_Rt X (some .int) (some res.1) res.2) (hD : ∀ i, 108 ≤ i → i < 321 → wt_dom (wt_xw X) i)  {K64 : Int32 × Int32 × Int32 × wt_St → Option (Int32 × wt_St)} (hK64 : ∀ s : Int32 × Int32 × Int32 × wt_St, K64 s = some res → wt_V X 0 s.2.2.2 64 [some (.ref (wt_ad (wt_xw X) 108)), some (.int x1), some (.int x2), some (.int x3), some (.int s.1), some (.int s.2.1), some (.int s.2.2.1), none, none] []) {σ : wt_St} {y0 : Int32} (h : wp_md_least_B208 n x1 x2 x3 x6 x7 K64 y0 σ = some res) : wt_V X 0 σ 208 [some (.ref (wt_ad (wt_xw X) 108)), some (.int x1), some (.int x2), some (.int x3), none, none, some (.int x6), some (.int x7), none] [.int y0] := by
  unfold wp_md_least_B208 at h
  refine wt_istore hE [some (.ref (wt_ad (wt_xw X) 108)), some (.int x1), some (.int x2), some (.int x3), some (.int y0), none, some (.int x6), some (.int x7), none] wp_md_least_d208 (Nat.le_of_ble_eq_true rfl) rfl ?_
  refine wt_aload_n hE wp_md_least_d210 rfl ?_
  refine wt_getr hE (r := 317) wt_lf_md_133 (hD 108 (by decide) (by decide)) wt_L108 rfl wp_md_least_d211 ?_
  refine wt_iload hE wp_md_least_d214 rfl ?_
  refine wt_iload hE wp_md_least_d216 rfl ?_
  obtain ⟨g20, h⟩ := wt_gd h
  refine wt_iast hE (hD 317 (by decide) (by decide)) wt_L317 g20 wp_md_least_d218 ?_
  refine wt_iload hE wp_md_least_d219 rfl ?_
  refine wt_istore hE [some (.ref (wt_ad (wt_xw X) 108)), some (.int x1), some (.int x2), some (.int x3), some (.int y0), some (.int x7), some (.int x6), some (.int x7), none] wp_md_least_d221 (Nat.le_of_ble_eq_true rfl) rfl ?_
  refine wt_iinc hE (x6 + (1 : Int32)) [some (.ref (wt_ad (wt_xw X) 108)), some (.int x1), some (.int x2), some (.int x3), some (.int y0), some (.int x7), some (.int (x6 + (1 : Int32))), some (.int x7), none] wp_md_least_d223 (by decide) rfl rfl rfl ?_
  refine wt_goto hE 64 wp_md_least_d226 rfl ?_
  refine wt_wk [true, true, true, true, true, true, true, false, true] rfl ?_
  exact hK64 (y0, x7, (x6 + (1 : Int32)), (wt_sa σ 317 (Int32.toNatClampNeg x6) x7)) h
noncomputable def wp_md_least_B174 (n : Nat) (x1 : Int32) (x2 : Int32) (x3 : Int32) (x4 : Int32) (x5 : Int32) (x6 : Int32) (x7 : Int32) (x8 : Int32) (K64 : Int32 × Int32 × Int32 × wt_St → Option (Int32 × wt_St)) (K81 : Int32 × Int32 × wt_St → Option (Int32 × wt_St)) (σ : wt_St) : Option (Int32 × wt_St) :=
  K81 (x7, (x8 + (1 : Int32)), σ)
set_option maxRecDepth 100000 in
set_option maxHeartbeats 4000000 in
theorem wp_md_least_B174_ok  {x1 : Int32} {x2 : Int32} {x3 : Int32} {x4 : Int32} {x5 : Int32} {x6 : Int32} {x7 : Int32} {x8 : Int32} {X : wt_X} {n : Nat} {res : Int32 × wt_St} (hE : wt_Ok X prog_13_method_67_code 9 "WornTypeModel" 2 0) (hR : wt_Rt X (some .int) (some res.1) res.2) (hD : ∀ i, 108 ≤ i → i < 321 → wt_dom (wt_xw X) i)  {K64 : Int32 × Int32 × Int32 × wt_St → Option (Int32 × wt_St)} (hK64 : ∀ s : Int32 × Int32 × Int32 × wt_St, K64 s = some res → wt_V X 0 s.2.2.2 64 [some (.ref (wt_ad (wt_xw X) 108)), some (.int x1), some (.int x2), some (.int x3), some (.int s.1), some (.int s.2.1), some (.int s.2.2.1), none, none] []) {K81 : Int32 × Int32 × wt_St → Option (Int32 × wt_St)} (hK81 : ∀ s : Int32 × Int32 × wt_St, K81 s = some res → wt_V X 0 s.2.2 81 [some (.ref (wt_ad (wt_xw X) 108)), some (.int x1), some (.int x2), some (.int x3), some (.int x4), some (.int x5), some (.int x6), some (.int s.1), some (.int s.2.1)] []) {σ : wt_St} (h : wp_md_least_B174 n x1 x2 x3 x4 x5 x6 x7 x8 K64 K81 σ = some res) : wt_V X 0 σ 174 [some (.ref (wt_ad (wt_xw X) 108)), some (.int x1), some (.int x2), some (.int x3), some (.int x4), some (.int x5), some (.int x6), some (.int x7), some (.int x8)] [] := by
  unfold wp_md_least_B174 at h
  refine wt_iinc hE (x8 + (1 : Int32)) [some (.ref (wt_ad (wt_xw X) 108)), some (.int x1), some (.int x2), some (.int x3), some (.int x4), some (.int x5), some (.int x6), some (.int x7), some (.int (x8 + (1 : Int32)))] wp_md_least_d174 (by decide) rfl rfl rfl ?_
  refine wt_goto hE 81 wp_md_least_d177 rfl ?_
  exact hK81 (x7, (x8 + (1 : Int32)), σ) h
noncomputable def wp_md_least_B172 (n : Nat) (x1 : Int32) (x2 : Int32) (x3 : Int32) (x4 : Int32) (x5 : Int32) (x6 : Int32) (x8 : Int32) (K64 : Int32 × Int32 × Int32 × wt_St → Option (Int32 × wt_St)) (K81 : Int32 × Int32 × wt_St → Option (Int32 × wt_St)) (y0 : Int32) (σ : wt_St) : Option (Int32 × wt_St) :=
  wp_md_least_B174 n x1 x2 x3 x4 x5 x6 y0 x8 K64 K81 σ
set_option maxRecDepth 100000 in
set_option maxHeartbeats 4000000 in
theorem wp_md_least_B172_ok  {x1 : Int32} {x2 : Int32} {x3 : Int32} {x4 : Int32} {x5 : Int32} {x6 : Int32} {x8 : Int32} {X : wt_X} {n : Nat} {res : Int32 × wt_St} (hE : wt_Ok X prog_13_method_67_code 9 "WornTypeModel" 2 0) (hR : wt_Rt X (some .int) (some res.1) res.2) (hD : ∀ i, 108 ≤ i → i < 321 → wt_dom (wt_xw X) i)  {K64 : Int32 × Int32 × Int32 × wt_St → Option (Int32 × wt_St)} (hK64 : ∀ s : Int32 × Int32 × Int32 × wt_St, K64 s = some res → wt_V X 0 s.2.2.2 64 [some (.ref (wt_ad (wt_xw X) 108)), some (.int x1), some (.int x2), some (.int x3), some (.int s.1), some (.int s.2.1), some (.int s.2.2.1), none, none] []) {K81 : Int32 × Int32 × wt_St → Option (Int32 × wt_St)} (hK81 : ∀ s : Int32 × Int32 × wt_St, K81 s = some res → wt_V X 0 s.2.2 81 [some (.ref (wt_ad (wt_xw X) 108)), some (.int x1), some (.int x2), some (.int x3), some (.int x4), some (.int x5), some (.int x6), some (.int s.1), some (.int s.2.1)] []) {σ : wt_St} {y0 : Int32} (h : wp_md_least_B172 n x1 x2 x3 x4 x5 x6 x8 K64 K81 y0 σ = some res) : wt_V X 0 σ 172 [some (.ref (wt_ad (wt_xw X) 108)), some (.int x1), some (.int x2), some (.int x3), some (.int x4), some (.int x5), some (.int x6), none, some (.int x8)] [.int y0] := by
  unfold wp_md_least_B172 at h
  refine wt_istore hE [some (.ref (wt_ad (wt_xw X) 108)), some (.int x1), some (.int x2), some (.int x3), some (.int x4), some (.int x5), some (.int x6), some (.int y0), some (.int x8)] wp_md_least_d172 (Nat.le_of_ble_eq_true rfl) rfl ?_
  exact wp_md_least_B174_ok hE hR hD hK64 hK81 h
noncomputable def wp_md_least_B165 (n : Nat) (x1 : Int32) (x2 : Int32) (x3 : Int32) (x4 : Int32) (x5 : Int32) (x6 : Int32) (x8 : Int32) (K64 : Int32 × Int32 × Int32 × wt_St → Option (Int32 × wt_St)) (K81 : Int32 × Int32 × wt_St → Option (Int32 × wt_St)) (σ : wt_St) : Option (Int32 × wt_St) :=
  wp_md_least_B172 n x1 x2 x3 x4 x5 x6 x8 K64 K81 x8 σ
set_option maxRecDepth 100000 in
set_option maxHeartbeats 4000000 in
theorem wp_md_least_B165_ok  {x1 : Int32} {x2 : Int32} {x3 : Int32} {x4 : Int32} {x5 : Int32} {x6 : Int32} {x8 : Int32} {X : wt_X} {n : Nat} {res : Int32 × wt_St} (hE : wt_Ok X prog_13_method_67_code 9 "WornTypeModel" 2 0) (hR : wt_Rt X (some .int) (some res.1) res.2) (hD : ∀ i, 108 ≤ i → i < 321 → wt_dom (wt_xw X) i)  {K64 : Int32 × Int32 × Int32 × wt_St → Option (Int32 × wt_St)} (hK64 : ∀ s : Int32 × Int32 × Int32 × wt_St, K64 s = some res → wt_V X 0 s.2.2.2 64 [some (.ref (wt_ad (wt_xw X) 108)), some (.int x1), some (.int x2), some (.int x3), some (.int s.1), some (.int s.2.1), some (.int s.2.2.1), none, none] []) {K81 : Int32 × Int32 × wt_St → Option (Int32 × wt_St)} (hK81 : ∀ s : Int32 × Int32 × wt_St, K81 s = some res → wt_V X 0 s.2.2 81 [some (.ref (wt_ad (wt_xw X) 108)), some (.int x1), some (.int x2), some (.int x3), some (.int x4), some (.int x5), some (.int x6), some (.int s.1), some (.int s.2.1)] []) {σ : wt_St} (h : wp_md_least_B165 n x1 x2 x3 x4 x5 x6 x8 K64 K81 σ = some res) : wt_V X 0 σ 165 [some (.ref (wt_ad (wt_xw X) 108)), some (.int x1), some (.int x2), some (.int x3), some (.int x4), some (.int x5), some (.int x6), none, some (.int x8)] [] := by
  unfold wp_md_least_B165 at h
  refine wt_iload hE wp_md_least_d165 rfl ?_
  refine wt_goto hE 172 wp_md_least_d167 rfl ?_
  exact wp_md_least_B172_ok hE hR hD hK64 hK81 h
noncomputable def wp_md_least_B136 (n : Nat) (x1 : Int32) (x2 : Int32) (x3 : Int32) (x4 : Int32) (x5 : Int32) (x6 : Int32) (x7 : Int32) (x8 : Int32) (K64 : Int32 × Int32 × Int32 × wt_St → Option (Int32 × wt_St)) (K81 : Int32 × Int32 × wt_St → Option (Int32 × wt_St)) (σ : wt_St) : Option (Int32 × wt_St) :=
  if x7 = (-1 : Int32) then
    wp_md_least_B165 n x1 x2 x3 x4 x5 x6 x8 K64 K81 σ
  else
    if x6 < 0 ∨ 12 ≤ Int32.toNatClampNeg x6 then none else
    if x8 < 0 ∨ 60 ≤ Int32.toNatClampNeg x8 then none else
    if x6 < 0 ∨ 12 ≤ Int32.toNatClampNeg x6 then none else
    if x7 < 0 ∨ 60 ≤ Int32.toNatClampNeg x7 then none else
    if (wt_ga σ (292 + Int32.toNatClampNeg x6) (Int32.toNatClampNeg x7)) ≤ (wt_ga σ (292 + Int32.toNatClampNeg x6) (Int32.toNatClampNeg x8)) then
      wp_md_least_B172 n x1 x2 x3 x4 x5 x6 x8 K64 K81 x7 σ
    else
      wp_md_least_B165 n x1 x2 x3 x4 x5 x6 x8 K64 K81 σ
set_option maxRecDepth 100000 in
set_option maxHeartbeats 4000000 in
theorem wp_md_least_B136_ok  {x1 : Int32} {x2 : Int32} {x3 : Int32} {x4 : Int32} {x5 : Int32} {x6 : Int32} {x7 : Int32} {x8 : Int32} {X : wt_X} {n : Nat} {res : Int32 × wt_St} (hE : wt_Ok X prog_13_method_67_code 9 "WornTypeModel" 2 0) (hR : wt_Rt X (some .int) (some res.1) res.2) (hD : ∀ i, 108 ≤ i → i < 321 → wt_dom (wt_xw X) i)  {K64 : Int32 × Int32 × Int32 × wt_St → Option (Int32 × wt_St)} (hK64 : ∀ s : Int32 × Int32 × Int32 × wt_St, K64 s = some res → wt_V X 0 s.2.2.2 64 [some (.ref (wt_ad (wt_xw X) 108)), some (.int x1), some (.int x2), some (.int x3), some (.int s.1), some (.int s.2.1), some (.int s.2.2.1), none, none] []) {K81 : Int32 × Int32 × wt_St → Option (Int32 × wt_St)} (hK81 : ∀ s : Int32 × Int32 × wt_St, K81 s = some res → wt_V X 0 s.2.2 81 [some (.ref (wt_ad (wt_xw X) 108)), some (.int x1), some (.int x2), some (.int x3), some (.int x4), some (.int x5), some (.int x6), some (.int s.1), some (.int s.2.1)] []) {σ : wt_St} (h : wp_md_least_B136 n x1 x2 x3 x4 x5 x6 x7 x8 K64 K81 σ = some res) : wt_V X 0 σ 136 [some (.ref (wt_ad (wt_xw X) 108)), some (.int x1), some (.int x2), some (.int x3), some (.int x4), some (.int x5), some (.int x6), some (.int x7), some (.int x8)] [] := by
  unfold wp_md_least_B136 at h
  refine wt_iload hE wp_md_least_d136 rfl ?_
  refine wt_iconst hE (-1 : Int32) wp_md_least_d138 wt_ci_m1 ?_
  refine wt_icmp_eq hE 165 wp_md_least_d139 rfl (fun c29 => ?_) (fun c29 => ?_)
  · have h := wt_ip c29 h
    refine wt_wk [true, true, true, true, true, true, true, false, true] rfl ?_
    exact wp_md_least_B165_ok hE hR hD hK64 hK81 h
  · have h := wt_in c29 h
    refine wt_aload_n hE wp_md_least_d142 rfl ?_
    refine wt_getr hE (r := 291) wt_lf_md_127 (hD 108 (by decide) (by decide)) wt_L108 rfl wp_md_least_d143 ?_
    refine wt_iload hE wp_md_least_d146 rfl ?_
    obtain ⟨g30, h⟩ := wt_gd h
    have lg30 := wt_lt g30
    refine wt_aald1 hE (hD 291 (by decide) (by decide)) wt_L291 g30 wp_md_least_d148 ?_
    refine wt_iload hE wp_md_least_d149 rfl ?_
    obtain ⟨g31, h⟩ := wt_gd h
    refine wt_iald hE (hD _ (by omega) (by omega)) (wt_G292 _ lg30) g31 wp_md_least_d151 ?_
    refine wt_aload_n hE wp_md_least_d152 rfl ?_
    refine wt_getr hE (r := 291) wt_lf_md_127 (hD 108 (by decide) (by decide)) wt_L108 rfl wp_md_least_d153 ?_
    refine wt_iload hE wp_md_least_d156 rfl ?_
    obtain ⟨g32, h⟩ := wt_gd h
    have lg32 := wt_lt g32
    refine wt_aald1 hE (hD 291 (by decide) (by decide)) wt_L291 g32 wp_md_least_d158 ?_
    refine wt_iload hE wp_md_least_d159 rfl ?_
    obtain ⟨g33, h⟩ := wt_gd h
    refine wt_iald hE (hD _ (by omega) (by omega)) (wt_G292 _ lg32) g33 wp_md_least_d161 ?_
    refine wt_icmp_ge hE 170 wp_md_least_d162 rfl (fun c34 => ?_) (fun c34 => ?_)
    · have h := wt_ip c34 h
      refine wt_iload hE wp_md_least_d170 rfl ?_
      refine wt_wk [true, true, true, true, true, true, true, false, true] rfl ?_
      exact wp_md_least_B172_ok hE hR hD hK64 hK81 h
    · have h := wt_in c34 h
      refine wt_wk [true, true, true, true, true, true, true, false, true] rfl ?_
      exact wp_md_least_B165_ok hE hR hD hK64 hK81 h
noncomputable def wp_md_least_B81 (n : Nat) (x1 : Int32) (x2 : Int32) (x3 : Int32) (x4 : Int32) (x5 : Int32) (x6 : Int32) (K64 : Int32 × Int32 × Int32 × wt_St → Option (Int32 × wt_St)) (K81 : Int32 × Int32 × wt_St → Option (Int32 × wt_St)) (s : Int32 × Int32 × wt_St) : Option (Int32 × wt_St) :=
  if (wt_gf s.2.2 108 28) ≤ s.2.1 then
    if s.1 = (-1 : Int32) then
      some ((-1 : Int32), s.2.2)
    else
      if x6 = 0 then
        if x6 < 0 ∨ 12 ≤ Int32.toNatClampNeg x6 then none else
        if s.1 < 0 ∨ 60 ≤ Int32.toNatClampNeg s.1 then none else
        wp_md_least_B208 n x1 x2 x3 x6 s.1 K64 (wt_ga s.2.2 (292 + Int32.toNatClampNeg x6) (Int32.toNatClampNeg s.1)) s.2.2
      else
        wp_md_least_B208 n x1 x2 x3 x6 s.1 K64 x4 s.2.2
  else
    (wp_md_isOf n s.2.1 x1 x6 s.2.2).bind fun q23 =>
    if q23.1 = 0 then
      wp_md_least_B174 n x1 x2 x3 x4 x5 x6 s.1 s.2.1 K64 K81 q23.2
    else
      if x6 < 0 ∨ 12 ≤ Int32.toNatClampNeg x6 then none else
      if s.2.1 < 0 ∨ 60 ≤ Int32.toNatClampNeg s.2.1 then none else
      if (wt_ga q23.2 (292 + Int32.toNatClampNeg x6) (Int32.toNatClampNeg s.2.1)) = (-1 : Int32) then
        wp_md_least_B174 n x1 x2 x3 x4 x5 x6 s.1 s.2.1 K64 K81 q23.2
      else
        if x5 = (-1 : Int32) then
          wp_md_least_B136 n x1 x2 x3 x4 x5 x6 s.1 s.2.1 K64 K81 q23.2
        else
          (wp_md_mayFollow n x5 s.2.1 q23.2).bind fun q35 =>
          if q35.1 = 0 then
            wp_md_least_B174 n x1 x2 x3 x4 x5 x6 s.1 s.2.1 K64 K81 q35.2
          else
            wp_md_least_B136 n x1 x2 x3 x4 x5 x6 s.1 s.2.1 K64 K81 q35.2
set_option maxRecDepth 100000 in
set_option maxHeartbeats 4000000 in
theorem wp_md_least_B81_ok  {x1 : Int32} {x2 : Int32} {x3 : Int32} {x4 : Int32} {x5 : Int32} {x6 : Int32} {X : wt_X} {n : Nat} {res : Int32 × wt_St} (hE : wt_Ok X prog_13_method_67_code 9 "WornTypeModel" 2 0) (hR : wt_Rt X (some .int) (some res.1) res.2) (hD : ∀ i, 108 ≤ i → i < 321 → wt_dom (wt_xw X) i)  {K64 : Int32 × Int32 × Int32 × wt_St → Option (Int32 × wt_St)} (hK64 : ∀ s : Int32 × Int32 × Int32 × wt_St, K64 s = some res → wt_V X 0 s.2.2.2 64 [some (.ref (wt_ad (wt_xw X) 108)), some (.int x1), some (.int x2), some (.int x3), some (.int s.1), some (.int s.2.1), some (.int s.2.2.1), none, none] []) {K81 : Int32 × Int32 × wt_St → Option (Int32 × wt_St)} (hK81 : ∀ s : Int32 × Int32 × wt_St, K81 s = some res → wt_V X 0 s.2.2 81 [some (.ref (wt_ad (wt_xw X) 108)), some (.int x1), some (.int x2), some (.int x3), some (.int x4), some (.int x5), some (.int x6), some (.int s.1), some (.int s.2.1)] []) {s : Int32 × Int32 × wt_St} (h : wp_md_least_B81 n x1 x2 x3 x4 x5 x6 K64 K81 s = some res) : wt_V X 0 s.2.2 81 [some (.ref (wt_ad (wt_xw X) 108)), some (.int x1), some (.int x2), some (.int x3), some (.int x4), some (.int x5), some (.int x6), some (.int s.1), some (.int s.2.1)] [] := by
  unfold wp_md_least_B81 at h
  refine wt_iload hE wp_md_least_d81 rfl ?_
  refine wt_aload_n hE wp_md_least_d83 rfl ?_
  refine wt_geti hE wt_lf_md_259 (hD 108 (by decide) (by decide)) wt_L108 rfl wp_md_least_d84 ?_
  refine wt_icmp_ge hE 180 wp_md_least_d87 rfl (fun c17 => ?_) (fun c17 => ?_)
  · have h := wt_ip c17 h
    refine wt_iload hE wp_md_least_d180 rfl ?_
    refine wt_iconst hE (-1 : Int32) wp_md_least_d182 wt_ci_m1 ?_
    refine wt_icmp_ne hE 188 wp_md_least_d183 rfl (fun c18 => ?_) (fun c18 => ?_)
    · have h := wt_in c18 h
      refine wt_iload hE wp_md_least_d188 rfl ?_
      refine wt_if_ne hE 206 wp_md_least_d190 rfl (fun c19 => ?_) (fun c19 => ?_)
      · have h := wt_in c19 h
        refine wt_iload hE wp_md_least_d206 rfl ?_
        refine wt_wk [true, true, true, true, false, false, true, true, false] rfl ?_
        exact wp_md_least_B208_ok hE hR hD hK64 h
      · have h := wt_ip c19 h
        refine wt_aload_n hE wp_md_least_d193 rfl ?_
        refine wt_getr hE (r := 291) wt_lf_md_127 (hD 108 (by decide) (by decide)) wt_L108 rfl wp_md_least_d194 ?_
        refine wt_iload hE wp_md_least_d197 rfl ?_
        obtain ⟨g21, h⟩ := wt_gd h
        have lg21 := wt_lt g21
        refine wt_aald1 hE (hD 291 (by decide) (by decide)) wt_L291 g21 wp_md_least_d199 ?_
        refine wt_iload hE wp_md_least_d200 rfl ?_
        obtain ⟨g22, h⟩ := wt_gd h
        refine wt_iald hE (hD _ (by omega) (by omega)) (wt_G292 _ lg21) g22 wp_md_least_d202 ?_
        refine wt_goto hE 208 wp_md_least_d203 rfl ?_
        refine wt_wk [true, true, true, true, false, false, true, true, false] rfl ?_
        exact wp_md_least_B208_ok hE hR hD hK64 h
    · have h := wt_ip c18 h
      refine wt_iconst hE (-1 : Int32) wp_md_least_d186 wt_ci_m1 ?_
      cases h
      exact wt_iret hE hR wp_md_least_d187
  · have h := wt_in c17 h
    refine wt_aload_n hE wp_md_least_d90 rfl ?_
    refine wt_iload hE wp_md_least_d91 rfl ?_
    refine wt_iload_n hE wp_md_least_d93 rfl ?_
    refine wt_iload hE wp_md_least_d94 rfl ?_
    obtain ⟨q23, hq23, h⟩ := wt_bi h
    refine wt_callVi hE [.int s.2.1, .int x1, .int x6] wt_lm_md_339 wt_ya_md_isOf (wp_md_isOf_ok hD hq23) (by omega) (hD 108 (by decide) (by decide)) wt_L108 rfl rfl rfl (Nat.le_of_ble_eq_true rfl) (Nat.zero_le _) wp_md_least_d96 (fun hbq23 => ?_)
    refine wt_if_eq hE 174 wp_md_least_d99 rfl (fun c24 => ?_) (fun c24 => ?_)
    · have h := wt_ip c24 h
      exact wp_md_least_B174_ok hE hR hD hK64 hK81 h
    · have h := wt_in c24 h
      refine wt_aload_n hE wp_md_least_d102 rfl ?_
      refine wt_getr hE (r := 291) wt_lf_md_127 (hD 108 (by decide) (by decide)) wt_L108 rfl wp_md_least_d103 ?_
      refine wt_iload hE wp_md_least_d106 rfl ?_
      obtain ⟨g25, h⟩ := wt_gd h
      have lg25 := wt_lt g25
      refine wt_aald1 hE (hD 291 (by decide) (by decide)) wt_L291 g25 wp_md_least_d108 ?_
      refine wt_iload hE wp_md_least_d109 rfl ?_
      obtain ⟨g26, h⟩ := wt_gd h
      refine wt_iald hE (hD _ (by omega) (by omega)) (wt_G292 _ lg25) g26 wp_md_least_d111 ?_
      refine wt_iconst hE (-1 : Int32) wp_md_least_d112 wt_ci_m1 ?_
      refine wt_icmp_eq hE 174 wp_md_least_d113 rfl (fun c27 => ?_) (fun c27 => ?_)
      · have h := wt_ip c27 h
        exact wp_md_least_B174_ok hE hR hD hK64 hK81 h
      · have h := wt_in c27 h
        refine wt_iload hE wp_md_least_d116 rfl ?_
        refine wt_iconst hE (-1 : Int32) wp_md_least_d118 wt_ci_m1 ?_
        refine wt_icmp_eq hE 136 wp_md_least_d119 rfl (fun c28 => ?_) (fun c28 => ?_)
        · have h := wt_ip c28 h
          exact wp_md_least_B136_ok hE hR hD hK64 hK81 h
        · have h := wt_in c28 h
          refine wt_aload_n hE wp_md_least_d122 rfl ?_
          refine wt_iload hE wp_md_least_d123 rfl ?_
          refine wt_iload hE wp_md_least_d125 rfl ?_
          obtain ⟨q35, hq35, h⟩ := wt_bi h
          refine wt_callVi hE [.int x5, .int s.2.1] wt_lm_md_342 wt_ya_md_mayFollow (wp_md_mayFollow_ok hD hq35) (by omega) (hD 108 (by decide) (by decide)) wt_L108 rfl rfl rfl (Nat.le_of_ble_eq_true rfl) (Nat.zero_le _) wp_md_least_d127 (fun hbq35 => ?_)
          refine wt_if_ne hE 136 wp_md_least_d130 rfl (fun c36 => ?_) (fun c36 => ?_)
          · have h := wt_in c36 h
            exact wp_md_least_B136_ok hE hR hD hK64 hK81 h
          · have h := wt_ip c36 h
            refine wt_goto hE 174 wp_md_least_d133 rfl ?_
            exact wp_md_least_B174_ok hE hR hD hK64 hK81 h
noncomputable def wp_md_least_B64 (n : Nat) (x1 : Int32) (x2 : Int32) (x3 : Int32) (K64 : Int32 × Int32 × Int32 × wt_St → Option (Int32 × wt_St)) (s : Int32 × Int32 × Int32 × wt_St) : Option (Int32 × wt_St) :=
  if x1 < 0 ∨ 8 ≤ Int32.toNatClampNeg x1 then none else
  if (wt_ga s.2.2.2 253 (Int32.toNatClampNeg x1)) ≤ s.2.2.1 then
    if x3 = 0 then
      some (s.1, s.2.2.2)
    else
      if x1 < 0 ∨ 8 ≤ Int32.toNatClampNeg x1 then none else
      (wp_md_in n x2 (0 : Int32) ((wt_ga s.2.2.2 253 (Int32.toNatClampNeg x1)) - (1 : Int32)) s.2.2.2).bind fun q14 =>
      if q14.1 = 0 then
        some ((-1 : Int32), q14.2)
      else
        if x2 < 0 ∨ 12 ≤ Int32.toNatClampNeg x2 then none else
        some ((wt_ga q14.2 317 (Int32.toNatClampNeg x2)), q14.2)
  else
    wt_it (wp_md_least_B81 n x1 x2 x3 s.1 s.2.1 s.2.2.1 K64) n ((-1 : Int32), (0 : Int32), s.2.2.2)
set_option maxRecDepth 100000 in
set_option maxHeartbeats 4000000 in
theorem wp_md_least_B64_ok  {x1 : Int32} {x2 : Int32} {x3 : Int32} {X : wt_X} {n : Nat} {res : Int32 × wt_St} (hE : wt_Ok X prog_13_method_67_code 9 "WornTypeModel" 2 0) (hR : wt_Rt X (some .int) (some res.1) res.2) (hD : ∀ i, 108 ≤ i → i < 321 → wt_dom (wt_xw X) i)  {K64 : Int32 × Int32 × Int32 × wt_St → Option (Int32 × wt_St)} (hK64 : ∀ s : Int32 × Int32 × Int32 × wt_St, K64 s = some res → wt_V X 0 s.2.2.2 64 [some (.ref (wt_ad (wt_xw X) 108)), some (.int x1), some (.int x2), some (.int x3), some (.int s.1), some (.int s.2.1), some (.int s.2.2.1), none, none] []) {s : Int32 × Int32 × Int32 × wt_St} (h : wp_md_least_B64 n x1 x2 x3 K64 s = some res) : wt_V X 0 s.2.2.2 64 [some (.ref (wt_ad (wt_xw X) 108)), some (.int x1), some (.int x2), some (.int x3), some (.int s.1), some (.int s.2.1), some (.int s.2.2.1), none, none] [] := by
  unfold wp_md_least_B64 at h
  refine wt_iload hE wp_md_least_d64 rfl ?_
  refine wt_aload_n hE wp_md_least_d66 rfl ?_
  refine wt_getr hE (r := 253) wt_lf_md_88 (hD 108 (by decide) (by decide)) wt_L108 rfl wp_md_least_d67 ?_
  refine wt_iload_n hE wp_md_least_d70 rfl ?_
  obtain ⟨g10, h⟩ := wt_gd h
  refine wt_iald hE (hD 253 (by decide) (by decide)) wt_L253 g10 wp_md_least_d71 ?_
  refine wt_icmp_ge hE 229 wp_md_least_d72 rfl (fun c11 => ?_) (fun c11 => ?_)
  · have h := wt_ip c11 h
    refine wt_iload_n hE wp_md_least_d229 rfl ?_
    refine wt_if_ne hE 238 wp_md_least_d230 rfl (fun c12 => ?_) (fun c12 => ?_)
    · have h := wt_in c12 h
      refine wt_iload_n hE wp_md_least_d238 rfl ?_
      refine wt_iconst hE (0 : Int32) wp_md_least_d239 wt_ci_0 ?_
      refine wt_aload_n hE wp_md_least_d240 rfl ?_
      refine wt_getr hE (r := 253) wt_lf_md_88 (hD 108 (by decide) (by decide)) wt_L108 rfl wp_md_least_d241 ?_
      refine wt_iload_n hE wp_md_least_d244 rfl ?_
      obtain ⟨g13, h⟩ := wt_gd h
      refine wt_iald hE (hD 253 (by decide) (by decide)) wt_L253 g13 wp_md_least_d245 ?_
      refine wt_iconst hE (1 : Int32) wp_md_least_d246 wt_ci_1 ?_
      refine wt_isub hE wp_md_least_d247 ?_
      obtain ⟨q14, hq14, h⟩ := wt_bi h
      refine wt_callSi hE [.int x2, .int (0 : Int32), .int ((wt_ga s.2.2.2 253 (Int32.toNatClampNeg x1)) - (1 : Int32))] wt_lm_md_185 wt_ya_md_in (wp_md_in_ok hq14) (by omega) rfl rfl (Nat.le_of_ble_eq_true rfl) (Nat.zero_le _) wp_md_least_d248 (fun hbq14 => ?_)
      refine wt_if_eq hE 263 wp_md_least_d251 rfl (fun c15 => ?_) (fun c15 => ?_)
      · have h := wt_ip c15 h
        refine wt_iconst hE (-1 : Int32) wp_md_least_d263 wt_ci_m1 ?_
        cases h
        exact wt_iret hE hR wp_md_least_d264
      · have h := wt_in c15 h
        refine wt_aload_n hE wp_md_least_d254 rfl ?_
        refine wt_getr hE (r := 317) wt_lf_md_133 (hD 108 (by decide) (by decide)) wt_L108 rfl wp_md_least_d255 ?_
        refine wt_iload_n hE wp_md_least_d258 rfl ?_
        obtain ⟨g16, h⟩ := wt_gd h
        refine wt_iald hE (hD 317 (by decide) (by decide)) wt_L317 g16 wp_md_least_d259 ?_
        refine wt_goto hE 264 wp_md_least_d260 rfl ?_
        cases h
        exact wt_iret hE hR wp_md_least_d264
    · have h := wt_ip c12 h
      refine wt_iload hE wp_md_least_d233 rfl ?_
      refine wt_goto hE 264 wp_md_least_d235 rfl ?_
      cases h
      exact wt_iret hE hR wp_md_least_d264
  · have h := wt_in c11 h
    refine wt_iconst hE (-1 : Int32) wp_md_least_d75 wt_ci_m1 ?_
    refine wt_istore hE [some (.ref (wt_ad (wt_xw X) 108)), some (.int x1), some (.int x2), some (.int x3), some (.int s.1), some (.int s.2.1), some (.int s.2.2.1), some (.int (-1 : Int32)), none] wp_md_least_d76 (Nat.le_of_ble_eq_true rfl) rfl ?_
    refine wt_iconst hE (0 : Int32) wp_md_least_d78 wt_ci_0 ?_
    refine wt_istore hE [some (.ref (wt_ad (wt_xw X) 108)), some (.int x1), some (.int x2), some (.int x3), some (.int s.1), some (.int s.2.1), some (.int s.2.2.1), some (.int (-1 : Int32)), some (.int (0 : Int32))] wp_md_least_d79 (Nat.le_of_ble_eq_true rfl) rfl ?_
    exact wt_it_ind (fun z => wt_V X 0 z.2.2 81 [some (.ref (wt_ad (wt_xw X) 108)), some (.int x1), some (.int x2), some (.int x3), some (.int s.1), some (.int s.2.1), some (.int s.2.2.1), some (.int z.1), some (.int z.2.1)] []) (fun K hK z h => wp_md_least_B81_ok hE hR hD hK64 hK h) n ((-1 : Int32), (0 : Int32), s.2.2.2) h
noncomputable def wp_md_least_B41 (n : Nat) (x1 : Int32) (x2 : Int32) (x3 : Int32) (y1 : Int32) (σ : wt_St) : Option (Int32 × wt_St) :=
  (wp_md_bad n y1 (2 : Int32) σ).bind fun q7 =>
  if q7.1 = 0 then
    (wp_md_laysRests n x1 q7.2).bind fun q9 =>
    wt_it (wp_md_least_B64 n x1 x2 x3) n ((-1 : Int32), (-1 : Int32), (0 : Int32), q9)
  else
    some ((0 : Int32), q7.2)
set_option maxRecDepth 100000 in
set_option maxHeartbeats 4000000 in
theorem wp_md_least_B41_ok  {x1 : Int32} {x2 : Int32} {x3 : Int32} {X : wt_X} {n : Nat} {res : Int32 × wt_St} (hE : wt_Ok X prog_13_method_67_code 9 "WornTypeModel" 2 0) (hR : wt_Rt X (some .int) (some res.1) res.2) (hD : ∀ i, 108 ≤ i → i < 321 → wt_dom (wt_xw X) i)  {σ : wt_St} {y1 : Int32} (h : wp_md_least_B41 n x1 x2 x3 y1 σ = some res) : wt_V X 0 σ 41 [some (.ref (wt_ad (wt_xw X) 108)), some (.int x1), some (.int x2), some (.int x3), none, none, none, none, none] [.int y1, .ref (wt_ad (wt_xw X) 108)] := by
  unfold wp_md_least_B41 at h
  refine wt_iconst hE (2 : Int32) wp_md_least_d41 wt_ci_2 ?_
  obtain ⟨q7, hq7, h⟩ := wt_bi h
  refine wt_callVi hE [.int y1, .int (2 : Int32)] wt_lm_md_230 wt_ya_md_bad (wp_md_bad_ok hD hq7) (by omega) (hD 108 (by decide) (by decide)) wt_L108 rfl rfl rfl (Nat.le_of_ble_eq_true rfl) (Nat.zero_le _) wp_md_least_d42 (fun hbq7 => ?_)
  refine wt_if_eq hE 50 wp_md_least_d45 rfl (fun c8 => ?_) (fun c8 => ?_)
  · have h := wt_ip c8 h
    refine wt_aload_n hE wp_md_least_d50 rfl ?_
    refine wt_iload_n hE wp_md_least_d51 rfl ?_
    obtain ⟨q9, hq9, h⟩ := wt_bi h
    refine wt_callVv hE [.int x1] wt_lm_md_346 wt_ya_md_laysRests (wp_md_laysRests_ok hD hq9) (by omega) (hD 108 (by decide) (by decide)) wt_L108 rfl rfl rfl (Nat.le_of_ble_eq_true rfl) (Nat.zero_le _) wp_md_least_d52 ?_
    refine wt_iconst hE (-1 : Int32) wp_md_least_d55 wt_ci_m1 ?_
    refine wt_istore hE [some (.ref (wt_ad (wt_xw X) 108)), some (.int x1), some (.int x2), some (.int x3), some (.int (-1 : Int32)), none, none, none, none] wp_md_least_d56 (Nat.le_of_ble_eq_true rfl) rfl ?_
    refine wt_iconst hE (-1 : Int32) wp_md_least_d58 wt_ci_m1 ?_
    refine wt_istore hE [some (.ref (wt_ad (wt_xw X) 108)), some (.int x1), some (.int x2), some (.int x3), some (.int (-1 : Int32)), some (.int (-1 : Int32)), none, none, none] wp_md_least_d59 (Nat.le_of_ble_eq_true rfl) rfl ?_
    refine wt_iconst hE (0 : Int32) wp_md_least_d61 wt_ci_0 ?_
    refine wt_istore hE [some (.ref (wt_ad (wt_xw X) 108)), some (.int x1), some (.int x2), some (.int x3), some (.int (-1 : Int32)), some (.int (-1 : Int32)), some (.int (0 : Int32)), none, none] wp_md_least_d62 (Nat.le_of_ble_eq_true rfl) rfl ?_
    exact wt_it_ind (fun z => wt_V X 0 z.2.2.2 64 [some (.ref (wt_ad (wt_xw X) 108)), some (.int x1), some (.int x2), some (.int x3), some (.int z.1), some (.int z.2.1), some (.int z.2.2.1), none, none] []) (fun K hK z h => wp_md_least_B64_ok hE hR hD hK h) n ((-1 : Int32), (-1 : Int32), (0 : Int32), q9) h
  · have h := wt_in c8 h
    refine wt_iconst hE (0 : Int32) wp_md_least_d48 wt_ci_0 ?_
    cases h
    exact wt_iret hE hR wp_md_least_d49
noncomputable def wp_md_least_B19 (n : Nat) (x1 : Int32) (x2 : Int32) (x3 : Int32) (y1 : Int32) (σ : wt_St) : Option (Int32 × wt_St) :=
  (wp_md_bad n y1 (1 : Int32) σ).bind fun q3 =>
  if q3.1 = 0 then
    (wp_md_in n x3 (0 : Int32) (1 : Int32) q3.2).bind fun q5 =>
    if q5.1 = 0 then
      wp_md_least_B41 n x1 x2 x3 (1 : Int32) q5.2
    else
      wp_md_least_B41 n x1 x2 x3 (0 : Int32) q5.2
  else
    some ((0 : Int32), q3.2)
set_option maxRecDepth 100000 in
set_option maxHeartbeats 4000000 in
theorem wp_md_least_B19_ok  {x1 : Int32} {x2 : Int32} {x3 : Int32} {X : wt_X} {n : Nat} {res : Int32 × wt_St} (hE : wt_Ok X prog_13_method_67_code 9 "WornTypeModel" 2 0) (hR : wt_Rt X (some .int) (some res.1) res.2) (hD : ∀ i, 108 ≤ i → i < 321 → wt_dom (wt_xw X) i)  {σ : wt_St} {y1 : Int32} (h : wp_md_least_B19 n x1 x2 x3 y1 σ = some res) : wt_V X 0 σ 19 [some (.ref (wt_ad (wt_xw X) 108)), some (.int x1), some (.int x2), some (.int x3), none, none, none, none, none] [.int y1, .ref (wt_ad (wt_xw X) 108)] := by
  unfold wp_md_least_B19 at h
  refine wt_iconst hE (1 : Int32) wp_md_least_d19 wt_ci_1 ?_
  obtain ⟨q3, hq3, h⟩ := wt_bi h
  refine wt_callVi hE [.int y1, .int (1 : Int32)] wt_lm_md_230 wt_ya_md_bad (wp_md_bad_ok hD hq3) (by omega) (hD 108 (by decide) (by decide)) wt_L108 rfl rfl rfl (Nat.le_of_ble_eq_true rfl) (Nat.zero_le _) wp_md_least_d20 (fun hbq3 => ?_)
  refine wt_if_ne hE 48 wp_md_least_d23 rfl (fun c4 => ?_) (fun c4 => ?_)
  · have h := wt_in c4 h
    refine wt_iconst hE (0 : Int32) wp_md_least_d48 wt_ci_0 ?_
    cases h
    exact wt_iret hE hR wp_md_least_d49
  · have h := wt_ip c4 h
    refine wt_aload_n hE wp_md_least_d26 rfl ?_
    refine wt_iload_n hE wp_md_least_d27 rfl ?_
    refine wt_iconst hE (0 : Int32) wp_md_least_d28 wt_ci_0 ?_
    refine wt_iconst hE (1 : Int32) wp_md_least_d29 wt_ci_1 ?_
    obtain ⟨q5, hq5, h⟩ := wt_bi h
    refine wt_callSi hE [.int x3, .int (0 : Int32), .int (1 : Int32)] wt_lm_md_185 wt_ya_md_in (wp_md_in_ok hq5) (by omega) rfl rfl (Nat.le_of_ble_eq_true rfl) (Nat.zero_le _) wp_md_least_d30 (fun hbq5 => ?_)
    refine wt_if_ne hE 40 wp_md_least_d33 rfl (fun c6 => ?_) (fun c6 => ?_)
    · have h := wt_in c6 h
      refine wt_iconst hE (0 : Int32) wp_md_least_d40 wt_ci_0 ?_
      exact wp_md_least_B41_ok hE hR hD h
    · have h := wt_ip c6 h
      refine wt_iconst hE (1 : Int32) wp_md_least_d36 wt_ci_1 ?_
      refine wt_goto hE 41 wp_md_least_d37 rfl ?_
      exact wp_md_least_B41_ok hE hR hD h
noncomputable def wp_md_least (n : Nat) (x1 : Int32) (x2 : Int32) (x3 : Int32) (σ : wt_St) : Option (Int32 × wt_St) :=
  (wp_md_isText n x1 (wt_sf σ 108 0 (0 : Int32))).bind fun q1 =>
  if q1.1 = 0 then
    wp_md_least_B19 n x1 x2 x3 (1 : Int32) q1.2
  else
    wp_md_least_B19 n x1 x2 x3 (0 : Int32) q1.2
set_option maxRecDepth 100000 in
set_option maxHeartbeats 4000000 in
theorem wp_md_least_ok {l : Launch} {w : wt_E} {n : Nat} {x1 : Int32} {x2 : Int32} {x3 : Int32} (hD : ∀ i, 108 ≤ i → i < 321 → wt_dom w i) {σ : wt_St} {q : Int32 × wt_St} (h : wp_md_least n x1 x2 x3 σ = some q) : wt_Ctr l w wt_y_md_least prog_13_method_67_code 9 (some .int) 2 [.ref (wt_ad w 108), .int x1, .int x2, .int x3] σ (some q.1) q.2 := by
  refine wt_ctr wt_pl_md_least rfl (Nat.le_of_ble_eq_true rfl) [some (.ref (wt_ad w 108)), some (.int x1), some (.int x2), some (.int x3), none, none, none, none, none] rfl ?_
  intro X hXl hXw hE hR
  subst hXl
  subst hXw
  have hE : wt_Ok X prog_13_method_67_code 9 "WornTypeModel" 2 0 := hE
  unfold wp_md_least at h
  refine wt_aload_n hE wp_md_least_d0 rfl ?_
  refine wt_iconst hE (0 : Int32) wp_md_least_d1 wt_ci_0 ?_
  refine wt_puti hE wt_lf_md_151 (hD 108 (by decide) (by decide)) wt_L108 rfl (fun q hq => by cases hq; rfl) wp_md_least_d2 ?_
  refine wt_aload_n hE wp_md_least_d5 rfl ?_
  refine wt_aload_n hE wp_md_least_d6 rfl ?_
  refine wt_iload_n hE wp_md_least_d7 rfl ?_
  obtain ⟨q1, hq1, h⟩ := wt_bi h
  refine wt_callVi hE [.int x1] wt_lm_md_307 wt_ya_md_isText (wp_md_isText_ok hD hq1) (by omega) (hD 108 (by decide) (by decide)) wt_L108 rfl rfl rfl (Nat.le_of_ble_eq_true rfl) (Nat.zero_le _) wp_md_least_d8 (fun hbq1 => ?_)
  refine wt_if_ne hE 18 wp_md_least_d11 rfl (fun c2 => ?_) (fun c2 => ?_)
  · have h := wt_in c2 h
    refine wt_iconst hE (0 : Int32) wp_md_least_d18 wt_ci_0 ?_
    exact wp_md_least_B19_ok hE hR hD h
  · have h := wt_ip c2 h
    refine wt_iconst hE (1 : Int32) wp_md_least_d14 wt_ci_1 ?_
    refine wt_goto hE 19 wp_md_least_d15 rfl ?_
    exact wp_md_least_B19_ok hE hR hD h
