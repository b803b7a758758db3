section WX9
set_option maxRecDepth 100000 in
theorem wt_ld_ap_112 : wt_MD "WornType" 112 wt_y_ap_refuse := ⟨wt_g3 61 rfl rfl, wt_g3 62 rfl rfl, wt_g1 1 rfl rfl⟩
set_option maxRecDepth 100000 in
theorem wt_ld_ap_219 : wt_MD "WornType" 219 wt_y_ap_miss := ⟨wt_g4 204 rfl rfl, wt_g4 205 rfl rfl, wt_g1 1 rfl rfl⟩
set_option maxRecDepth 100000 in
theorem wt_ld_ap_253 : wt_MD "WornType" 253 wt_y_ap_refuseCopies := ⟨wt_g5 59 rfl rfl, wt_g5 60 rfl rfl, wt_g1 1 rfl rfl⟩
def wb42thm_prog_1_method_40_code_r0 : List (List Nat) := [26, 153, 0, 14, 187, 1, 104, 89, 19, 1, 106, 183, 1, 108, 191, 177] :: []
set_option maxRecDepth 100000 in
theorem wb42thm_prog_1_method_40_code_c0 : wt_cs prog_1_method_40_code 0 wb42thm_prog_1_method_40_code_r0 := wt_cs_of (by decide +kernel)
theorem wp_ap_miss_d0 : decode prog_1_method_40_code 0 = .ok (.iload_n 0, 1) := wt_op26 wb42thm_prog_1_method_40_code_c0 0 rfl rfl
theorem wp_ap_miss_d1 : decode prog_1_method_40_code 1 = .ok (.ifCond .eq 14, 3) := wt_op153 wb42thm_prog_1_method_40_code_c0 1 rfl rfl rfl
theorem wp_ap_miss_d4 : decode prog_1_method_40_code 4 = .ok (.new 360, 3) := wt_op187 wb42thm_prog_1_method_40_code_c0 4 rfl rfl rfl
theorem wp_ap_miss_d7 : decode prog_1_method_40_code 7 = .ok (.dup, 1) := wt_op89 wb42thm_prog_1_method_40_code_c0 7 rfl rfl
theorem wp_ap_miss_d8 : decode prog_1_method_40_code 8 = .ok (.ldc_w 362, 3) := wt_op19 wb42thm_prog_1_method_40_code_c0 8 rfl rfl rfl
theorem wp_ap_miss_d11 : decode prog_1_method_40_code 11 = .ok (.invokespecial 364, 3) := wt_op183 wb42thm_prog_1_method_40_code_c0 11 rfl rfl rfl
theorem wp_ap_miss_d14 : decode prog_1_method_40_code 14 = .ok (.athrow, 1) := wt_op191 wb42thm_prog_1_method_40_code_c0 14 rfl rfl
theorem wp_ap_miss_d15 : decode prog_1_method_40_code 15 = .ok (.return_, 1) := wt_op177 wb42thm_prog_1_method_40_code_c0 15 rfl rfl
noncomputable def wp_ap_miss (n : Nat) (x0 : Int32) (σ : wt_St) : Option (Nat × Int32 × wt_St) :=
  if x0 = 0 then
    some (0, 0, σ)
  else
    some (2, 0, σ)
set_option maxRecDepth 100000 in
set_option maxHeartbeats 4000000 in
theorem wp_ap_miss_ok {l : Launch} (htr : l.stackTraces = false) {w : wt_E} {n : Nat} {x0 : Int32} {σ : wt_St} {q : Nat × Int32 × wt_St} (h : wp_ap_miss n x0 σ = some q) : wt_CtrX l w wt_y_ap_miss prog_1_method_40_code 1 none 6 1 [.int x0] σ q.1 none q.2.2 := by
  refine wt_ctrX htr wt_pl_ap_miss rfl (Nat.le_of_ble_eq_true rfl) [some (.int x0)] rfl ?_
  intro X hXl hXw hE hR
  subst hXl
  subst hXw
  have hE : wt_Ok X prog_1_method_40_code 1 "WornType" 6 1 := hE
  unfold wp_ap_miss at h
  refine wt_iload_n hE wp_ap_miss_d0 rfl ?_
  refine wt_if_eq hE 15 wp_ap_miss_d1 rfl (fun c1 => ?_) (fun c1 => ?_)
  · have h := wt_ip c1 h
    cases h
    exact wt_vretX hE hR (by decide) wp_ap_miss_d15
  · have h := wt_in c1 h
    cases h
    exact wt_thrN hE hR (by omega) (by decide) (by decide) (Nat.le_of_ble_eq_true rfl) wp_ap_miss_d4 wp_ap_miss_d7 wp_ap_miss_d8 wp_ap_miss_d11 wp_ap_miss_d14
def wb42thm_prog_1_method_18_code_r1 : List (List Nat) := [42, 180, 0, 46, 27, 182, 1, 16, 28, 172] :: []
def wb42thm_prog_1_method_18_code_r0 : List (List Nat) := [42, 180, 0, 68, 27, 182, 1, 7, 154, 0, 7, 4, 167, 0, 4, 3, 184, 0, 219, 42, 180, 0, 68, 27, 182, 1, 13, 61] :: wb42thm_prog_1_method_18_code_r1
set_option maxRecDepth 100000 in
theorem wb42thm_prog_1_method_18_code_c0 : wt_cs prog_1_method_18_code 0 wb42thm_prog_1_method_18_code_r0 := wt_cs_of (by decide +kernel)
theorem wb42thm_prog_1_method_18_code_c1 : wt_cs prog_1_method_18_code 28 wb42thm_prog_1_method_18_code_r1 := wt_cs_tl (m := 28) wb42thm_prog_1_method_18_code_c0 rfl rfl
theorem wp_ap_apart_d0 : decode prog_1_method_18_code 0 = .ok (.aload_n 0, 1) := wt_op42 wb42thm_prog_1_method_18_code_c0 0 rfl rfl
theorem wp_ap_apart_d1 : decode prog_1_method_18_code 1 = .ok (.getfield 68, 3) := wt_op180 wb42thm_prog_1_method_18_code_c0 1 rfl rfl rfl
theorem wp_ap_apart_d4 : decode prog_1_method_18_code 4 = .ok (.iload_n 1, 1) := wt_op27 wb42thm_prog_1_method_18_code_c0 4 rfl rfl
theorem wp_ap_apart_d5 : decode prog_1_method_18_code 5 = .ok (.invokevirtual 263, 3) := wt_op182 wb42thm_prog_1_method_18_code_c0 5 rfl rfl rfl
theorem wp_ap_apart_d8 : decode prog_1_method_18_code 8 = .ok (.ifCond .ne 7, 3) := wt_op154 wb42thm_prog_1_method_18_code_c0 8 rfl rfl rfl
theorem wp_ap_apart_d11 : decode prog_1_method_18_code 11 = .ok (.iconst 1, 1) := wt_op4 wb42thm_prog_1_method_18_code_c0 11 rfl rfl
theorem wp_ap_apart_d12 : decode prog_1_method_18_code 12 = .ok (.goto 4, 3) := wt_op167 wb42thm_prog_1_method_18_code_c0 12 rfl rfl rfl
theorem wp_ap_apart_d15 : decode prog_1_method_18_code 15 = .ok (.iconst 0, 1) := wt_op3 wb42thm_prog_1_method_18_code_c0 15 rfl rfl
theorem wp_ap_apart_d16 : decode prog_1_method_18_code 16 = .ok (.invokestatic 219, 3) := wt_op184 wb42thm_prog_1_method_18_code_c0 16 rfl rfl rfl
theorem wp_ap_apart_d19 : decode prog_1_method_18_code 19 = .ok (.aload_n 0, 1) := wt_op42 wb42thm_prog_1_method_18_code_c0 19 rfl rfl
theorem wp_ap_apart_d20 : decode prog_1_method_18_code 20 = .ok (.getfield 68, 3) := wt_op180 wb42thm_prog_1_method_18_code_c0 20 rfl rfl rfl
theorem wp_ap_apart_d23 : decode prog_1_method_18_code 23 = .ok (.iload_n 1, 1) := wt_op27 wb42thm_prog_1_method_18_code_c0 23 rfl rfl
theorem wp_ap_apart_d24 : decode prog_1_method_18_code 24 = .ok (.invokevirtual 269, 3) := wt_op182 wb42thm_prog_1_method_18_code_c0 24 rfl rfl rfl
theorem wp_ap_apart_d27 : decode prog_1_method_18_code 27 = .ok (.istore_n 2, 1) := wt_op61 wb42thm_prog_1_method_18_code_c0 27 rfl rfl
theorem wp_ap_apart_d28 : decode prog_1_method_18_code 28 = .ok (.aload_n 0, 1) := wt_op42 wb42thm_prog_1_method_18_code_c1 0 rfl rfl
theorem wp_ap_apart_d29 : decode prog_1_method_18_code 29 = .ok (.getfield 46, 3) := wt_op180 wb42thm_prog_1_method_18_code_c1 1 rfl rfl rfl
theorem wp_ap_apart_d32 : decode prog_1_method_18_code 32 = .ok (.iload_n 1, 1) := wt_op27 wb42thm_prog_1_method_18_code_c1 4 rfl rfl
theorem wp_ap_apart_d33 : decode prog_1_method_18_code 33 = .ok (.invokevirtual 272, 3) := wt_op182 wb42thm_prog_1_method_18_code_c1 5 rfl rfl rfl
theorem wp_ap_apart_d36 : decode prog_1_method_18_code 36 = .ok (.iload_n 2, 1) := wt_op28 wb42thm_prog_1_method_18_code_c1 8 rfl rfl
theorem wp_ap_apart_d37 : decode prog_1_method_18_code 37 = .ok (.ireturn, 1) := wt_op172 wb42thm_prog_1_method_18_code_c1 9 rfl rfl
noncomputable def wp_ap_apart_B16 (n : Nat) (x1 : Int32) (y0 : Int32) (σ : wt_St) : Option (Nat × Int32 × wt_St) :=
  (wp_ap_miss n y0 σ).bind fun q3 =>
  if q3.1 = 0 then
  (wp_pg_piecesOn n x1 q3.2.2).bind fun q4 =>
  (wp_st_clearPage n 39 x1 q4.2).bind fun q5 =>
  some (0, q4.1, q5)
  else some (q3.1, 0, q3.2.2)
set_option maxRecDepth 100000 in
set_option maxHeartbeats 4000000 in
theorem wp_ap_apart_B16_ok  {x1 : Int32} {X : wt_X} {n : Nat} {res : Nat × Int32 × wt_St} (hE : wt_Ok X prog_1_method_18_code 3 "WornType" 7 8) (hR : wt_RtX X (some .int) 8 res.1 (some res.2.1) res.2.2) (hD : ∀ i, i < 108 → wt_dom (wt_xw X) i)  {σ : wt_St} {y0 : Int32} (h : wp_ap_apart_B16 n x1 y0 σ = some res) : wt_V X 0 σ 16 [some (.ref (wt_ad (wt_xw X) 0)), some (.int x1), none] [.int y0] := by
  unfold wp_ap_apart_B16 at h
  obtain ⟨q3, hq3, h⟩ := wt_bi h
  refine wt_callSXv (mc := 8) (rt0 := (some .int)) hE [.int y0] wt_ld_ap_219 wt_ya_ap_miss (wp_ap_miss_ok hR.2.2.2 hq3) (by omega) rfl rfl (Nat.le_of_ble_eq_true rfl) (by decide) (by decide) wp_ap_apart_d16 (fun he => ?_) (fun he => ?_)
  · have h := wt_in he h
    cases h
    exact ⟨_, hR⟩
  have h := wt_ip he h
  refine wt_aload_n hE wp_ap_apart_d19 rfl ?_
  refine wt_getr hE (r := 77) wt_lf_ap_68 (hD 0 (Nat.le_of_ble_eq_true rfl)) wt_L0 rfl wp_ap_apart_d20 ?_
  refine wt_iload_n hE wp_ap_apart_d23 rfl ?_
  obtain ⟨q4, hq4, h⟩ := wt_bi h
  refine wt_callVi hE [.int x1] wt_lm_ap_269 wt_ya_pg_piecesOn (wp_pg_piecesOn_ok hD hq4) (by omega) (hD 77 (Nat.le_of_ble_eq_true rfl)) wt_L77 rfl rfl rfl (Nat.le_of_ble_eq_true rfl) (by decide) wp_ap_apart_d24 (fun hbq4 => ?_)
  refine wt_istore_n hE [some (.ref (wt_ad (wt_xw X) 0)), some (.int x1), some (.int q4.1)] wp_ap_apart_d27 (by decide) rfl ?_
  refine wt_aload_n hE wp_ap_apart_d28 rfl ?_
  refine wt_getr hE (r := 39) wt_lf_ap_46 (hD 0 (Nat.le_of_ble_eq_true rfl)) wt_L0 rfl wp_ap_apart_d29 ?_
  refine wt_iload_n hE wp_ap_apart_d32 rfl ?_
  obtain ⟨q5, hq5, h⟩ := wt_bi h
  refine wt_callVv hE [.int x1] wt_lm_ap_272 wt_ya_st_clearPage (wp_st_clearPage_ok wt_isState_39 (fun j hj => hD (39 + j) (by omega)) hq5) (by omega) (hD 39 (Nat.le_of_ble_eq_true rfl)) wt_L39 rfl rfl rfl (Nat.le_of_ble_eq_true rfl) (by decide) wp_ap_apart_d33 ?_
  refine wt_iload_n hE wp_ap_apart_d36 rfl ?_
  cases h
  exact wt_iretX hE hR (by decide) wp_ap_apart_d37
noncomputable def wp_ap_apart (n : Nat) (x1 : Int32) (σ : wt_St) : Option (Nat × Int32 × wt_St) :=
  (wp_pg_stands n x1 σ).bind fun q1 =>
  if q1.1 = 0 then
    wp_ap_apart_B16 n x1 (1 : Int32) q1.2
  else
    wp_ap_apart_B16 n x1 (0 : Int32) q1.2
set_option maxRecDepth 100000 in
set_option maxHeartbeats 4000000 in
theorem wp_ap_apart_ok {l : Launch} (htr : l.stackTraces = false) {w : wt_E} {n : Nat} {x1 : Int32} (hD : ∀ i, i < 108 → wt_dom w i) {σ : wt_St} {q : Nat × Int32 × wt_St} (h : wp_ap_apart n x1 σ = some q) : wt_CtrX l w wt_y_ap_apart prog_1_method_18_code 3 (some .int) 7 8 [.ref (wt_ad w 0), .int x1] σ q.1 (some q.2.1) q.2.2 := by
  refine wt_ctrX htr wt_pl_ap_apart rfl (Nat.le_of_ble_eq_true rfl) [some (.ref (wt_ad w 0)), some (.int x1), none] rfl ?_
  intro X hXl hXw hE hR
  subst hXl
  subst hXw
  have hE : wt_Ok X prog_1_method_18_code 3 "WornType" 7 8 := hE
  unfold wp_ap_apart at h
  refine wt_aload_n hE wp_ap_apart_d0 rfl ?_
  refine wt_getr hE (r := 77) wt_lf_ap_68 (hD 0 (Nat.le_of_ble_eq_true rfl)) wt_L0 rfl wp_ap_apart_d1 ?_
  refine wt_iload_n hE wp_ap_apart_d4 rfl ?_
  obtain ⟨q1, hq1, h⟩ := wt_bi h
  refine wt_callVi hE [.int x1] wt_lm_ap_263 wt_ya_pg_stands (wp_pg_stands_ok hD hq1) (by omega) (hD 77 (Nat.le_of_ble_eq_true rfl)) wt_L77 rfl rfl rfl (Nat.le_of_ble_eq_true rfl) (by decide) wp_ap_apart_d5 (fun hbq1 => ?_)
  refine wt_if_ne hE 15 wp_ap_apart_d8 rfl (fun c2 => ?_) (fun c2 => ?_)
  · have h := wt_in c2 h
    refine wt_iconst hE (0 : Int32) wp_ap_apart_d15 wt_ci_0 ?_
    exact wp_ap_apart_B16_ok hE hR hD h
  · have h := wt_ip c2 h
    refine wt_iconst hE (1 : Int32) wp_ap_apart_d11 wt_ci_1 ?_
    refine wt_goto hE 16 wp_ap_apart_d12 rfl ?_
    exact wp_ap_apart_B16_ok hE hR hD h
def wb42thm_prog_1_method_11_code_r1 : List (List Nat) := [172] :: []
def wb42thm_prog_1_method_11_code_r0 : List (List Nat) := [42, 180, 0, 39, 27, 182, 0, 244, 154, 0, 7, 4, 167, 0, 4, 3, 184, 0, 219, 42, 180, 0, 39, 27, 28, 182, 0, 245] :: wb42thm_prog_1_method_11_code_r1
set_option maxRecDepth 100000 in
theorem wb42thm_prog_1_method_11_code_c0 : wt_cs prog_1_method_11_code 0 wb42thm_prog_1_method_11_code_r0 := wt_cs_of (by decide +kernel)
theorem wb42thm_prog_1_method_11_code_c1 : wt_cs prog_1_method_11_code 28 wb42thm_prog_1_method_11_code_r1 := wt_cs_tl (m := 28) wb42thm_prog_1_method_11_code_c0 rfl rfl
theorem wp_ap_at_d0 : decode prog_1_method_11_code 0 = .ok (.aload_n 0, 1) := wt_op42 wb42thm_prog_1_method_11_code_c0 0 rfl rfl
theorem wp_ap_at_d1 : decode prog_1_method_11_code 1 = .ok (.getfield 39, 3) := wt_op180 wb42thm_prog_1_method_11_code_c0 1 rfl rfl rfl
theorem wp_ap_at_d4 : decode prog_1_method_11_code 4 = .ok (.iload_n 1, 1) := wt_op27 wb42thm_prog_1_method_11_code_c0 4 rfl rfl
theorem wp_ap_at_d5 : decode prog_1_method_11_code 5 = .ok (.invokevirtual 244, 3) := wt_op182 wb42thm_prog_1_method_11_code_c0 5 rfl rfl rfl
theorem wp_ap_at_d8 : decode prog_1_method_11_code 8 = .ok (.ifCond .ne 7, 3) := wt_op154 wb42thm_prog_1_method_11_code_c0 8 rfl rfl rfl
theorem wp_ap_at_d11 : decode prog_1_method_11_code 11 = .ok (.iconst 1, 1) := wt_op4 wb42thm_prog_1_method_11_code_c0 11 rfl rfl
theorem wp_ap_at_d12 : decode prog_1_method_11_code 12 = .ok (.goto 4, 3) := wt_op167 wb42thm_prog_1_method_11_code_c0 12 rfl rfl rfl
theorem wp_ap_at_d15 : decode prog_1_method_11_code 15 = .ok (.iconst 0, 1) := wt_op3 wb42thm_prog_1_method_11_code_c0 15 rfl rfl
theorem wp_ap_at_d16 : decode prog_1_method_11_code 16 = .ok (.invokestatic 219, 3) := wt_op184 wb42thm_prog_1_method_11_code_c0 16 rfl rfl rfl
theorem wp_ap_at_d19 : decode prog_1_method_11_code 19 = .ok (.aload_n 0, 1) := wt_op42 wb42thm_prog_1_method_11_code_c0 19 rfl rfl
theorem wp_ap_at_d20 : decode prog_1_method_11_code 20 = .ok (.getfield 39, 3) := wt_op180 wb42thm_prog_1_method_11_code_c0 20 rfl rfl rfl
theorem wp_ap_at_d23 : decode prog_1_method_11_code 23 = .ok (.iload_n 1, 1) := wt_op27 wb42thm_prog_1_method_11_code_c0 23 rfl rfl
theorem wp_ap_at_d24 : decode prog_1_method_11_code 24 = .ok (.iload_n 2, 1) := wt_op28 wb42thm_prog_1_method_11_code_c0 24 rfl rfl
theorem wp_ap_at_d25 : decode prog_1_method_11_code 25 = .ok (.invokevirtual 245, 3) := wt_op182 wb42thm_prog_1_method_11_code_c0 25 rfl rfl rfl
theorem wp_ap_at_d28 : decode prog_1_method_11_code 28 = .ok (.ireturn, 1) := wt_op172 wb42thm_prog_1_method_11_code_c1 0 rfl rfl
noncomputable def wp_ap_at_B16 (n : Nat) (x1 : Int32) (x2 : Int32) (y0 : Int32) (σ : wt_St) : Option (Nat × Int32 × wt_St) :=
  (wp_ap_miss n y0 σ).bind fun q3 =>
  if q3.1 = 0 then
  (wp_tx_wordAt n x1 x2 q3.2.2).bind fun q4 =>
  some (0, q4.1, q4.2)
  else some (q3.1, 0, q3.2.2)
set_option maxRecDepth 100000 in
set_option maxHeartbeats 4000000 in
theorem wp_ap_at_B16_ok  {x1 : Int32} {x2 : Int32} {X : wt_X} {n : Nat} {res : Nat × Int32 × wt_St} (hE : wt_Ok X prog_1_method_11_code 3 "WornType" 7 8) (hR : wt_RtX X (some .int) 8 res.1 (some res.2.1) res.2.2) (hD : ∀ i, i < 108 → wt_dom (wt_xw X) i)  {σ : wt_St} {y0 : Int32} (h : wp_ap_at_B16 n x1 x2 y0 σ = some res) : wt_V X 0 σ 16 [some (.ref (wt_ad (wt_xw X) 0)), some (.int x1), some (.int x2)] [.int y0] := by
  unfold wp_ap_at_B16 at h
  obtain ⟨q3, hq3, h⟩ := wt_bi h
  refine wt_callSXv (mc := 8) (rt0 := (some .int)) hE [.int y0] wt_ld_ap_219 wt_ya_ap_miss (wp_ap_miss_ok hR.2.2.2 hq3) (by omega) rfl rfl (Nat.le_of_ble_eq_true rfl) (by decide) (by decide) wp_ap_at_d16 (fun he => ?_) (fun he => ?_)
  · have h := wt_in he h
    cases h
    exact ⟨_, hR⟩
  have h := wt_ip he h
  refine wt_aload_n hE wp_ap_at_d19 rfl ?_
  refine wt_getr hE (r := 34) wt_lf_ap_39 (hD 0 (Nat.le_of_ble_eq_true rfl)) wt_L0 rfl wp_ap_at_d20 ?_
  refine wt_iload_n hE wp_ap_at_d23 rfl ?_
  refine wt_iload_n hE wp_ap_at_d24 rfl ?_
  obtain ⟨q4, hq4, h⟩ := wt_bi h
  refine wt_callVi hE [.int x1, .int x2] wt_lm_ap_245 wt_ya_tx_wordAt (wp_tx_wordAt_ok hD hq4) (by omega) (hD 34 (Nat.le_of_ble_eq_true rfl)) wt_L34 rfl rfl rfl (Nat.le_of_ble_eq_true rfl) (by decide) wp_ap_at_d25 (fun hbq4 => ?_)
  cases h
  exact wt_iretX hE hR (by decide) wp_ap_at_d28
noncomputable def wp_ap_at (n : Nat) (x1 : Int32) (x2 : Int32) (σ : wt_St) : Option (Nat × Int32 × wt_St) :=
  (wp_tx_has n x1 σ).bind fun q1 =>
  if q1.1 = 0 then
    wp_ap_at_B16 n x1 x2 (1 : Int32) q1.2
  else
    wp_ap_at_B16 n x1 x2 (0 : Int32) q1.2
set_option maxRecDepth 100000 in
set_option maxHeartbeats 4000000 in
theorem wp_ap_at_ok {l : Launch} (htr : l.stackTraces = false) {w : wt_E} {n : Nat} {x1 : Int32} {x2 : Int32} (hD : ∀ i, i < 108 → wt_dom w i) {σ : wt_St} {q : Nat × Int32 × wt_St} (h : wp_ap_at n x1 x2 σ = some q) : wt_CtrX l w wt_y_ap_at prog_1_method_11_code 3 (some .int) 7 8 [.ref (wt_ad w 0), .int x1, .int x2] σ q.1 (some q.2.1) q.2.2 := by
  refine wt_ctrX htr wt_pl_ap_at rfl (Nat.le_of_ble_eq_true rfl) [some (.ref (wt_ad w 0)), some (.int x1), some (.int x2)] rfl ?_
  intro X hXl hXw hE hR
  subst hXl
  subst hXw
  have hE : wt_Ok X prog_1_method_11_code 3 "WornType" 7 8 := hE
  unfold wp_ap_at at h
  refine wt_aload_n hE wp_ap_at_d0 rfl ?_
  refine wt_getr hE (r := 34) wt_lf_ap_39 (hD 0 (Nat.le_of_ble_eq_true rfl)) wt_L0 rfl wp_ap_at_d1 ?_
  refine wt_iload_n hE wp_ap_at_d4 rfl ?_
  obtain ⟨q1, hq1, h⟩ := wt_bi h
  refine wt_callVi hE [.int x1] wt_lm_ap_244 wt_ya_tx_has (wp_tx_has_ok hD hq1) (by omega) (hD 34 (Nat.le_of_ble_eq_true rfl)) wt_L34 rfl rfl rfl (Nat.le_of_ble_eq_true rfl) (by decide) wp_ap_at_d5 (fun hbq1 => ?_)
  refine wt_if_ne hE 15 wp_ap_at_d8 rfl (fun c2 => ?_) (fun c2 => ?_)
  · have h := wt_in c2 h
    refine wt_iconst hE (0 : Int32) wp_ap_at_d15 wt_ci_0 ?_
    exact wp_ap_at_B16_ok hE hR hD h
  · have h := wt_ip c2 h
    refine wt_iconst hE (1 : Int32) wp_ap_at_d11 wt_ci_1 ?_
    refine wt_goto hE 16 wp_ap_at_d12 rfl ?_
    exact wp_ap_at_B16_ok hE hR hD h
def wb42thm_prog_1_method_14_code_r1 : List (List Nat) := [182, 0, 252, 42, 180, 0, 59, 42, 180, 0, 97, 42, 180, 0, 46, 180, 0, 210, 182, 0, 238, 172] :: []
def wb42thm_prog_1_method_14_code_r0 : List (List Nat) := [42, 180, 0, 39, 27, 182, 0, 244, 154, 0, 7, 4, 167, 0, 4, 3, 184, 0, 219, 42, 180, 0, 39, 27, 42, 180, 0, 97] :: wb42thm_prog_1_method_14_code_r1
set_option maxRecDepth 100000 in
theorem wb42thm_prog_1_method_14_code_c0 : wt_cs prog_1_method_14_code 0 wb42thm_prog_1_method_14_code_r0 := wt_cs_of (by decide +kernel)
theorem wb42thm_prog_1_method_14_code_c1 : wt_cs prog_1_method_14_code 28 wb42thm_prog_1_method_14_code_r1 := wt_cs_tl (m := 28) wb42thm_prog_1_method_14_code_c0 rfl rfl
theorem wp_ap_can_d0 : decode prog_1_method_14_code 0 = .ok (.aload_n 0, 1) := wt_op42 wb42thm_prog_1_method_14_code_c0 0 rfl rfl
theorem wp_ap_can_d1 : decode prog_1_method_14_code 1 = .ok (.getfield 39, 3) := wt_op180 wb42thm_prog_1_method_14_code_c0 1 rfl rfl rfl
theorem wp_ap_can_d4 : decode prog_1_method_14_code 4 = .ok (.iload_n 1, 1) := wt_op27 wb42thm_prog_1_method_14_code_c0 4 rfl rfl
theorem wp_ap_can_d5 : decode prog_1_method_14_code 5 = .ok (.invokevirtual 244, 3) := wt_op182 wb42thm_prog_1_method_14_code_c0 5 rfl rfl rfl
theorem wp_ap_can_d8 : decode prog_1_method_14_code 8 = .ok (.ifCond .ne 7, 3) := wt_op154 wb42thm_prog_1_method_14_code_c0 8 rfl rfl rfl
theorem wp_ap_can_d11 : decode prog_1_method_14_code 11 = .ok (.iconst 1, 1) := wt_op4 wb42thm_prog_1_method_14_code_c0 11 rfl rfl
theorem wp_ap_can_d12 : decode prog_1_method_14_code 12 = .ok (.goto 4, 3) := wt_op167 wb42thm_prog_1_method_14_code_c0 12 rfl rfl rfl
theorem wp_ap_can_d15 : decode prog_1_method_14_code 15 = .ok (.iconst 0, 1) := wt_op3 wb42thm_prog_1_method_14_code_c0 15 rfl rfl
theorem wp_ap_can_d16 : decode prog_1_method_14_code 16 = .ok (.invokestatic 219, 3) := wt_op184 wb42thm_prog_1_method_14_code_c0 16 rfl rfl rfl
theorem wp_ap_can_d19 : decode prog_1_method_14_code 19 = .ok (.aload_n 0, 1) := wt_op42 wb42thm_prog_1_method_14_code_c0 19 rfl rfl
theorem wp_ap_can_d20 : decode prog_1_method_14_code 20 = .ok (.getfield 39, 3) := wt_op180 wb42thm_prog_1_method_14_code_c0 20 rfl rfl rfl
theorem wp_ap_can_d23 : decode prog_1_method_14_code 23 = .ok (.iload_n 1, 1) := wt_op27 wb42thm_prog_1_method_14_code_c0 23 rfl rfl
theorem wp_ap_can_d24 : decode prog_1_method_14_code 24 = .ok (.aload_n 0, 1) := wt_op42 wb42thm_prog_1_method_14_code_c0 24 rfl rfl
theorem wp_ap_can_d25 : decode prog_1_method_14_code 25 = .ok (.getfield 97, 3) := wt_op180 wb42thm_prog_1_method_14_code_c0 25 rfl rfl rfl
theorem wp_ap_can_d28 : decode prog_1_method_14_code 28 = .ok (.invokevirtual 252, 3) := wt_op182 wb42thm_prog_1_method_14_code_c1 0 rfl rfl rfl
theorem wp_ap_can_d31 : decode prog_1_method_14_code 31 = .ok (.aload_n 0, 1) := wt_op42 wb42thm_prog_1_method_14_code_c1 3 rfl rfl
theorem wp_ap_can_d32 : decode prog_1_method_14_code 32 = .ok (.getfield 59, 3) := wt_op180 wb42thm_prog_1_method_14_code_c1 4 rfl rfl rfl
theorem wp_ap_can_d35 : decode prog_1_method_14_code 35 = .ok (.aload_n 0, 1) := wt_op42 wb42thm_prog_1_method_14_code_c1 7 rfl rfl
theorem wp_ap_can_d36 : decode prog_1_method_14_code 36 = .ok (.getfield 97, 3) := wt_op180 wb42thm_prog_1_method_14_code_c1 8 rfl rfl rfl
theorem wp_ap_can_d39 : decode prog_1_method_14_code 39 = .ok (.aload_n 0, 1) := wt_op42 wb42thm_prog_1_method_14_code_c1 11 rfl rfl
theorem wp_ap_can_d40 : decode prog_1_method_14_code 40 = .ok (.getfield 46, 3) := wt_op180 wb42thm_prog_1_method_14_code_c1 12 rfl rfl rfl
theorem wp_ap_can_d43 : decode prog_1_method_14_code 43 = .ok (.getfield 210, 3) := wt_op180 wb42thm_prog_1_method_14_code_c1 15 rfl rfl rfl
theorem wp_ap_can_d46 : decode prog_1_method_14_code 46 = .ok (.invokevirtual 238, 3) := wt_op182 wb42thm_prog_1_method_14_code_c1 18 rfl rfl rfl
theorem wp_ap_can_d49 : decode prog_1_method_14_code 49 = .ok (.ireturn, 1) := wt_op172 wb42thm_prog_1_method_14_code_c1 21 rfl rfl
noncomputable def wp_ap_can_B16 (n : Nat) (x1 : Int32) (y0 : Int32) (σ : wt_St) : Option (Nat × Int32 × wt_St) :=
  (wp_ap_miss n y0 σ).bind fun q3 =>
  if q3.1 = 0 then
  (wp_tx_spell n 107 x1 q3.2.2).bind fun q4 =>
  (wp_sk_often n 107 40 q4).bind fun q5 =>
  some (0, q5.1, q5.2)
  else some (q3.1, 0, q3.2.2)
set_option maxRecDepth 100000 in
set_option maxHeartbeats 4000000 in
theorem wp_ap_can_B16_ok  {x1 : Int32} {X : wt_X} {n : Nat} {res : Nat × Int32 × wt_St} (hE : wt_Ok X prog_1_method_14_code 2 "WornType" 7 8) (hR : wt_RtX X (some .int) 8 res.1 (some res.2.1) res.2.2) (hD : ∀ i, i < 108 → wt_dom (wt_xw X) i)  {σ : wt_St} {y0 : Int32} (h : wp_ap_can_B16 n x1 y0 σ = some res) : wt_V X 0 σ 16 [some (.ref (wt_ad (wt_xw X) 0)), some (.int x1)] [.int y0] := by
  unfold wp_ap_can_B16 at h
  obtain ⟨q3, hq3, h⟩ := wt_bi h
  refine wt_callSXv (mc := 8) (rt0 := (some .int)) hE [.int y0] wt_ld_ap_219 wt_ya_ap_miss (wp_ap_miss_ok hR.2.2.2 hq3) (by omega) rfl rfl (Nat.le_of_ble_eq_true rfl) (by decide) (by decide) wp_ap_can_d16 (fun he => ?_) (fun he => ?_)
  · have h := wt_in he h
    cases h
    exact ⟨_, hR⟩
  have h := wt_ip he h
  refine wt_aload_n hE wp_ap_can_d19 rfl ?_
  refine wt_getr hE (r := 34) wt_lf_ap_39 (hD 0 (Nat.le_of_ble_eq_true rfl)) wt_L0 rfl wp_ap_can_d20 ?_
  refine wt_iload_n hE wp_ap_can_d23 rfl ?_
  refine wt_aload_n hE wp_ap_can_d24 rfl ?_
  refine wt_getr hE (r := 107) wt_lf_ap_97 (hD 0 (Nat.le_of_ble_eq_true rfl)) wt_L0 rfl wp_ap_can_d25 ?_
  obtain ⟨q4, hq4, h⟩ := wt_bi h
  refine wt_callVv hE [.int x1, .ref (wt_ad (wt_xw X) 107)] wt_lm_ap_252 wt_ya_tx_spell (wp_tx_spell_ok hD (wt_lnE wt_L107) (hD 107 (Nat.le_of_ble_eq_true rfl)) hq4) (by omega) (hD 34 (Nat.le_of_ble_eq_true rfl)) wt_L34 rfl rfl rfl (Nat.le_of_ble_eq_true rfl) (by decide) wp_ap_can_d28 ?_
  refine wt_aload_n hE wp_ap_can_d31 rfl ?_
  refine wt_getr hE (r := 76) wt_lf_ap_59 (hD 0 (Nat.le_of_ble_eq_true rfl)) wt_L0 rfl wp_ap_can_d32 ?_
  refine wt_aload_n hE wp_ap_can_d35 rfl ?_
  refine wt_getr hE (r := 107) wt_lf_ap_97 (hD 0 (Nat.le_of_ble_eq_true rfl)) wt_L0 rfl wp_ap_can_d36 ?_
  refine wt_aload_n hE wp_ap_can_d39 rfl ?_
  refine wt_getr hE (r := 39) wt_lf_ap_46 (hD 0 (Nat.le_of_ble_eq_true rfl)) wt_L0 rfl wp_ap_can_d40 ?_
  refine wt_getr hE (r := 40) wt_lf_ap_210 (hD 39 (Nat.le_of_ble_eq_true rfl)) wt_L39 rfl wp_ap_can_d43 ?_
  obtain ⟨q5, hq5, h⟩ := wt_bi h
  refine wt_callVi hE [.ref (wt_ad (wt_xw X) 107), .ref (wt_ad (wt_xw X) 40)] wt_lm_ap_238 wt_ya_sk_often (wp_sk_often_ok hD (wt_lnE wt_L107) (hD 107 (Nat.le_of_ble_eq_true rfl)) (wt_lnE wt_L40) (hD 40 (Nat.le_of_ble_eq_true rfl)) hq5) (by omega) (hD 76 (Nat.le_of_ble_eq_true rfl)) wt_L76 rfl rfl rfl (Nat.le_of_ble_eq_true rfl) (by decide) wp_ap_can_d46 (fun hbq5 => ?_)
  cases h
  exact wt_iretX hE hR (by decide) wp_ap_can_d49
noncomputable def wp_ap_can (n : Nat) (x1 : Int32) (σ : wt_St) : Option (Nat × Int32 × wt_St) :=
  (wp_tx_has n x1 σ).bind fun q1 =>
  if q1.1 = 0 then
    wp_ap_can_B16 n x1 (1 : Int32) q1.2
  else
    wp_ap_can_B16 n x1 (0 : Int32) q1.2
set_option maxRecDepth 100000 in
set_option maxHeartbeats 4000000 in
theorem wp_ap_can_ok {l : Launch} (htr : l.stackTraces = false) {w : wt_E} {n : Nat} {x1 : Int32} (hD : ∀ i, i < 108 → wt_dom w i) {σ : wt_St} {q : Nat × Int32 × wt_St} (h : wp_ap_can n x1 σ = some q) : wt_CtrX l w wt_y_ap_can prog_1_method_14_code 2 (some .int) 7 8 [.ref (wt_ad w 0), .int x1] σ q.1 (some q.2.1) q.2.2 := by
  refine wt_ctrX htr wt_pl_ap_can rfl (Nat.le_of_ble_eq_true rfl) [some (.ref (wt_ad w 0)), some (.int x1)] rfl ?_
  intro X hXl hXw hE hR
  subst hXl
  subst hXw
  have hE : wt_Ok X prog_1_method_14_code 2 "WornType" 7 8 := hE
  unfold wp_ap_can at h
  refine wt_aload_n hE wp_ap_can_d0 rfl ?_
  refine wt_getr hE (r := 34) wt_lf_ap_39 (hD 0 (Nat.le_of_ble_eq_true rfl)) wt_L0 rfl wp_ap_can_d1 ?_
  refine wt_iload_n hE wp_ap_can_d4 rfl ?_
  obtain ⟨q1, hq1, h⟩ := wt_bi h
  refine wt_callVi hE [.int x1] wt_lm_ap_244 wt_ya_tx_has (wp_tx_has_ok hD hq1) (by omega) (hD 34 (Nat.le_of_ble_eq_true rfl)) wt_L34 rfl rfl rfl (Nat.le_of_ble_eq_true rfl) (by decide) wp_ap_can_d5 (fun hbq1 => ?_)
  refine wt_if_ne hE 15 wp_ap_can_d8 rfl (fun c2 => ?_) (fun c2 => ?_)
  · have h := wt_in c2 h
    refine wt_iconst hE (0 : Int32) wp_ap_can_d15 wt_ci_0 ?_
    exact wp_ap_can_B16_ok hE hR hD h
  · have h := wt_ip c2 h
    refine wt_iconst hE (1 : Int32) wp_ap_can_d11 wt_ci_1 ?_
    refine wt_goto hE 16 wp_ap_can_d12 rfl ?_
    exact wp_ap_can_B16_ok hE hR hD h
def wb42thm_prog_1_method_38_code_r0 : List (List Nat) := [26, 153, 0, 14, 187, 0, 167, 89, 19, 1, 102, 183, 0, 171, 191, 177] :: []
set_option maxRecDepth 100000 in
theorem wb42thm_prog_1_method_38_code_c0 : wt_cs prog_1_method_38_code 0 wb42thm_prog_1_method_38_code_r0 := wt_cs_of (by decide +kernel)
theorem wp_ap_refuse_d0 : decode prog_1_method_38_code 0 = .ok (.iload_n 0, 1) := wt_op26 wb42thm_prog_1_method_38_code_c0 0 rfl rfl
theorem wp_ap_refuse_d1 : decode prog_1_method_38_code 1 = .ok (.ifCond .eq 14, 3) := wt_op153 wb42thm_prog_1_method_38_code_c0 1 rfl rfl rfl
theorem wp_ap_refuse_d4 : decode prog_1_method_38_code 4 = .ok (.new 167, 3) := wt_op187 wb42thm_prog_1_method_38_code_c0 4 rfl rfl rfl
theorem wp_ap_refuse_d7 : decode prog_1_method_38_code 7 = .ok (.dup, 1) := wt_op89 wb42thm_prog_1_method_38_code_c0 7 rfl rfl
theorem wp_ap_refuse_d8 : decode prog_1_method_38_code 8 = .ok (.ldc_w 358, 3) := wt_op19 wb42thm_prog_1_method_38_code_c0 8 rfl rfl rfl
theorem wp_ap_refuse_d11 : decode prog_1_method_38_code 11 = .ok (.invokespecial 171, 3) := wt_op183 wb42thm_prog_1_method_38_code_c0 11 rfl rfl rfl
theorem wp_ap_refuse_d14 : decode prog_1_method_38_code 14 = .ok (.athrow, 1) := wt_op191 wb42thm_prog_1_method_38_code_c0 14 rfl rfl
theorem wp_ap_refuse_d15 : decode prog_1_method_38_code 15 = .ok (.return_, 1) := wt_op177 wb42thm_prog_1_method_38_code_c0 15 rfl rfl
noncomputable def wp_ap_refuse (n : Nat) (x0 : Int32) (σ : wt_St) : Option (Nat × Int32 × wt_St) :=
  if x0 = 0 then
    some (0, 0, σ)
  else
    some (1, 0, σ)
set_option maxRecDepth 100000 in
set_option maxHeartbeats 4000000 in
theorem wp_ap_refuse_ok {l : Launch} (htr : l.stackTraces = false) {w : wt_E} {n : Nat} {x0 : Int32} {σ : wt_St} {q : Nat × Int32 × wt_St} (h : wp_ap_refuse n x0 σ = some q) : wt_CtrX l w wt_y_ap_refuse prog_1_method_38_code 1 none 6 1 [.int x0] σ q.1 none q.2.2 := by
  refine wt_ctrX htr wt_pl_ap_refuse rfl (Nat.le_of_ble_eq_true rfl) [some (.int x0)] rfl ?_
  intro X hXl hXw hE hR
  subst hXl
  subst hXw
  have hE : wt_Ok X prog_1_method_38_code 1 "WornType" 6 1 := hE
  unfold wp_ap_refuse at h
  refine wt_iload_n hE wp_ap_refuse_d0 rfl ?_
  refine wt_if_eq hE 15 wp_ap_refuse_d1 rfl (fun c1 => ?_) (fun c1 => ?_)
  · have h := wt_ip c1 h
    cases h
    exact wt_vretX hE hR (by decide) wp_ap_refuse_d15
  · have h := wt_in c1 h
    cases h
    exact wt_thrIW hE hR 5 rfl (by omega) (by decide) (by decide) (Nat.le_of_ble_eq_true rfl) wp_ap_refuse_d4 wp_ap_refuse_d7 wp_ap_refuse_d8 wp_ap_refuse_d11 wp_ap_refuse_d14
def wb42thm_prog_1_method_39_code_r0 : List (List Nat) := [26, 4, 161, 0, 10, 26, 17, 1, 144, 164, 0, 7, 4, 167, 0, 4, 3, 184, 0, 112, 177] :: []
set_option maxRecDepth 100000 in
theorem wb42thm_prog_1_method_39_code_c0 : wt_cs prog_1_method_39_code 0 wb42thm_prog_1_method_39_code_r0 := wt_cs_of (by decide +kernel)
theorem wp_ap_refuseCopies_d0 : decode prog_1_method_39_code 0 = .ok (.iload_n 0, 1) := wt_op26 wb42thm_prog_1_method_39_code_c0 0 rfl rfl
theorem wp_ap_refuseCopies_d1 : decode prog_1_method_39_code 1 = .ok (.iconst 1, 1) := wt_op4 wb42thm_prog_1_method_39_code_c0 1 rfl rfl
theorem wp_ap_refuseCopies_d2 : decode prog_1_method_39_code 2 = .ok (.if_icmp .lt 10, 3) := wt_op161 wb42thm_prog_1_method_39_code_c0 2 rfl rfl rfl
theorem wp_ap_refuseCopies_d5 : decode prog_1_method_39_code 5 = .ok (.iload_n 0, 1) := wt_op26 wb42thm_prog_1_method_39_code_c0 5 rfl rfl
theorem wp_ap_refuseCopies_d6 : decode prog_1_method_39_code 6 = .ok (.sipush 400, 3) := wt_op17 wb42thm_prog_1_method_39_code_c0 6 rfl rfl rfl
theorem wp_ap_refuseCopies_d9 : decode prog_1_method_39_code 9 = .ok (.if_icmp .le 7, 3) := wt_op164 wb42thm_prog_1_method_39_code_c0 9 rfl rfl rfl
theorem wp_ap_refuseCopies_d12 : decode prog_1_method_39_code 12 = .ok (.iconst 1, 1) := wt_op4 wb42thm_prog_1_method_39_code_c0 12 rfl rfl
theorem wp_ap_refuseCopies_d13 : decode prog_1_method_39_code 13 = .ok (.goto 4, 3) := wt_op167 wb42thm_prog_1_method_39_code_c0 13 rfl rfl rfl
theorem wp_ap_refuseCopies_d16 : decode prog_1_method_39_code 16 = .ok (.iconst 0, 1) := wt_op3 wb42thm_prog_1_method_39_code_c0 16 rfl rfl
theorem wp_ap_refuseCopies_d17 : decode prog_1_method_39_code 17 = .ok (.invokestatic 112, 3) := wt_op184 wb42thm_prog_1_method_39_code_c0 17 rfl rfl rfl
theorem wp_ap_refuseCopies_d20 : decode prog_1_method_39_code 20 = .ok (.return_, 1) := wt_op177 wb42thm_prog_1_method_39_code_c0 20 rfl rfl
noncomputable def wp_ap_refuseCopies_B17 (n : Nat) (y0 : Int32) (σ : wt_St) : Option (Nat × Int32 × wt_St) :=
  (wp_ap_refuse n y0 σ).bind fun q2 =>
  if q2.1 = 0 then
  some (0, 0, q2.2.2)
  else some (q2.1, 0, q2.2.2)
set_option maxRecDepth 100000 in
set_option maxHeartbeats 4000000 in
theorem wp_ap_refuseCopies_B17_ok  {X : wt_X} {n : Nat} {res : Nat × Int32 × wt_St} (hE : wt_Ok X prog_1_method_39_code 1 "WornType" 7 1) (hR : wt_RtX X none 1 res.1 none res.2.2)  {σ : wt_St} {y0 : Int32} (h : wp_ap_refuseCopies_B17 n y0 σ = some res) : wt_V X 0 σ 17 [none] [.int y0] := by
  unfold wp_ap_refuseCopies_B17 at h
  obtain ⟨q2, hq2, h⟩ := wt_bi h
  refine wt_callSXv (mc := 1) (rt0 := none) hE [.int y0] wt_ld_ap_112 wt_ya_ap_refuse (wp_ap_refuse_ok hR.2.2.2 hq2) (by omega) rfl rfl (Nat.le_of_ble_eq_true rfl) (by decide) (by decide) wp_ap_refuseCopies_d17 (fun he => ?_) (fun he => ?_)
  · have h := wt_in he h
    cases h
    exact ⟨_, hR⟩
  have h := wt_ip he h
  cases h
  exact wt_vretX hE hR (by decide) wp_ap_refuseCopies_d20
noncomputable def wp_ap_refuseCopies_B12 (n : Nat) (σ : wt_St) : Option (Nat × Int32 × wt_St) :=
  wp_ap_refuseCopies_B17 n (1 : Int32) σ
set_option maxRecDepth 100000 in
set_option maxHeartbeats 4000000 in
theorem wp_ap_refuseCopies_B12_ok  {X : wt_X} {n : Nat} {res : Nat × Int32 × wt_St} (hE : wt_Ok X prog_1_method_39_code 1 "WornType" 7 1) (hR : wt_RtX X none 1 res.1 none res.2.2)  {σ : wt_St} (h : wp_ap_refuseCopies_B12 n σ = some res) : wt_V X 0 σ 12 [none] [] := by
  unfold wp_ap_refuseCopies_B12 at h
  refine wt_iconst hE (1 : Int32) wp_ap_refuseCopies_d12 wt_ci_1 ?_
  refine wt_goto hE 17 wp_ap_refuseCopies_d13 rfl ?_
  exact wp_ap_refuseCopies_B17_ok hE hR h
noncomputable def wp_ap_refuseCopies (n : Nat) (x0 : Int32) (σ : wt_St) : Option (Nat × Int32 × wt_St) :=
  if x0 < (1 : Int32) then
    wp_ap_refuseCopies_B12 n σ
  else
    if x0 ≤ (400 : Int32) then
      wp_ap_refuseCopies_B17 n (0 : Int32) σ
    else
      wp_ap_refuseCopies_B12 n σ
set_option maxRecDepth 100000 in
set_option maxHeartbeats 4000000 in
theorem wp_ap_refuseCopies_ok {l : Launch} (htr : l.stackTraces = false) {w : wt_E} {n : Nat} {x0 : Int32} {σ : wt_St} {q : Nat × Int32 × wt_St} (h : wp_ap_refuseCopies n x0 σ = some q) : wt_CtrX l w wt_y_ap_refuseCopies prog_1_method_39_code 1 none 7 1 [.int x0] σ q.1 none q.2.2 := by
  refine wt_ctrX htr wt_pl_ap_refuseCopies rfl (Nat.le_of_ble_eq_true rfl) [some (.int x0)] rfl ?_
  intro X hXl hXw hE hR
  subst hXl
  subst hXw
  have hE : wt_Ok X prog_1_method_39_code 1 "WornType" 7 1 := hE
  unfold wp_ap_refuseCopies at h
  refine wt_iload_n hE wp_ap_refuseCopies_d0 rfl ?_
  refine wt_iconst hE (1 : Int32) wp_ap_refuseCopies_d1 wt_ci_1 ?_
  refine wt_icmp_lt hE 12 wp_ap_refuseCopies_d2 rfl (fun c1 => ?_) (fun c1 => ?_)
  · have h := wt_ip c1 h
    refine wt_wk [false] rfl ?_
    exact wp_ap_refuseCopies_B12_ok hE hR h
  · have h := wt_in c1 h
    refine wt_iload_n hE wp_ap_refuseCopies_d5 rfl ?_
    refine wt_sipush hE (400 : Int32) wp_ap_refuseCopies_d6 wt_cs_400 ?_
    refine wt_icmp_le hE 16 wp_ap_refuseCopies_d9 rfl (fun c3 => ?_) (fun c3 => ?_)
    · have h := wt_ip c3 h
      refine wt_iconst hE (0 : Int32) wp_ap_refuseCopies_d16 wt_ci_0 ?_
      refine wt_wk [false] rfl ?_
      exact wp_ap_refuseCopies_B17_ok hE hR h
    · have h := wt_in c3 h
      refine wt_wk [false] rfl ?_
      exact wp_ap_refuseCopies_B12_ok hE hR h
def wb42thm_prog_1_method_33_code_r1 : List (List Nat) := [28, 182, 1, 93, 172] :: []
def wb42thm_prog_1_method_33_code_r0 : List (List Nat) := [42, 180, 0, 39, 27, 182, 0, 244, 154, 0, 7, 4, 167, 0, 4, 3, 184, 0, 219, 28, 184, 0, 253, 42, 180, 0, 93, 27] :: wb42thm_prog_1_method_33_code_r1
set_option maxRecDepth 100000 in
theorem wb42thm_prog_1_method_33_code_c0 : wt_cs prog_1_method_33_code 0 wb42thm_prog_1_method_33_code_r0 := wt_cs_of (by decide +kernel)
theorem wb42thm_prog_1_method_33_code_c1 : wt_cs prog_1_method_33_code 28 wb42thm_prog_1_method_33_code_r1 := wt_cs_tl (m := 28) wb42thm_prog_1_method_33_code_c0 rfl rfl
theorem wp_ap_cast_d0 : decode prog_1_method_33_code 0 = .ok (.aload_n 0, 1) := wt_op42 wb42thm_prog_1_method_33_code_c0 0 rfl rfl
theorem wp_ap_cast_d1 : decode prog_1_method_33_code 1 = .ok (.getfield 39, 3) := wt_op180 wb42thm_prog_1_method_33_code_c0 1 rfl rfl rfl
theorem wp_ap_cast_d4 : decode prog_1_method_33_code 4 = .ok (.iload_n 1, 1) := wt_op27 wb42thm_prog_1_method_33_code_c0 4 rfl rfl
theorem wp_ap_cast_d5 : decode prog_1_method_33_code 5 = .ok (.invokevirtual 244, 3) := wt_op182 wb42thm_prog_1_method_33_code_c0 5 rfl rfl rfl
theorem wp_ap_cast_d8 : decode prog_1_method_33_code 8 = .ok (.ifCond .ne 7, 3) := wt_op154 wb42thm_prog_1_method_33_code_c0 8 rfl rfl rfl
theorem wp_ap_cast_d11 : decode prog_1_method_33_code 11 = .ok (.iconst 1, 1) := wt_op4 wb42thm_prog_1_method_33_code_c0 11 rfl rfl
theorem wp_ap_cast_d12 : decode prog_1_method_33_code 12 = .ok (.goto 4, 3) := wt_op167 wb42thm_prog_1_method_33_code_c0 12 rfl rfl rfl
theorem wp_ap_cast_d15 : decode prog_1_method_33_code 15 = .ok (.iconst 0, 1) := wt_op3 wb42thm_prog_1_method_33_code_c0 15 rfl rfl
theorem wp_ap_cast_d16 : decode prog_1_method_33_code 16 = .ok (.invokestatic 219, 3) := wt_op184 wb42thm_prog_1_method_33_code_c0 16 rfl rfl rfl
theorem wp_ap_cast_d19 : decode prog_1_method_33_code 19 = .ok (.iload_n 2, 1) := wt_op28 wb42thm_prog_1_method_33_code_c0 19 rfl rfl
theorem wp_ap_cast_d20 : decode prog_1_method_33_code 20 = .ok (.invokestatic 253, 3) := wt_op184 wb42thm_prog_1_method_33_code_c0 20 rfl rfl rfl
theorem wp_ap_cast_d23 : decode prog_1_method_33_code 23 = .ok (.aload_n 0, 1) := wt_op42 wb42thm_prog_1_method_33_code_c0 23 rfl rfl
theorem wp_ap_cast_d24 : decode prog_1_method_33_code 24 = .ok (.getfield 93, 3) := wt_op180 wb42thm_prog_1_method_33_code_c0 24 rfl rfl rfl
theorem wp_ap_cast_d27 : decode prog_1_method_33_code 27 = .ok (.iload_n 1, 1) := wt_op27 wb42thm_prog_1_method_33_code_c0 27 rfl rfl
theorem wp_ap_cast_d28 : decode prog_1_method_33_code 28 = .ok (.iload_n 2, 1) := wt_op28 wb42thm_prog_1_method_33_code_c1 0 rfl rfl
theorem wp_ap_cast_d29 : decode prog_1_method_33_code 29 = .ok (.invokevirtual 349, 3) := wt_op182 wb42thm_prog_1_method_33_code_c1 1 rfl rfl rfl
theorem wp_ap_cast_d32 : decode prog_1_method_33_code 32 = .ok (.ireturn, 1) := wt_op172 wb42thm_prog_1_method_33_code_c1 4 rfl rfl
noncomputable def wp_ap_cast_B16 (n : Nat) (x1 : Int32) (x2 : Int32) (y0 : Int32) (σ : wt_St) : Option (Nat × Int32 × wt_St) :=
  (wp_ap_miss n y0 σ).bind fun q3 =>
  if q3.1 = 0 then
  (wp_ap_refuseCopies n x2 q3.2.2).bind fun q4 =>
  if q4.1 = 0 then
  (wp_tr_bestCast n x1 x2 q4.2.2).bind fun q5 =>
  some (0, q5.1, q5.2)
  else some (q4.1, 0, q4.2.2)
  else some (q3.1, 0, q3.2.2)
set_option maxRecDepth 100000 in
set_option maxHeartbeats 4000000 in
theorem wp_ap_cast_B16_ok  {x1 : Int32} {x2 : Int32} {X : wt_X} {n : Nat} {res : Nat × Int32 × wt_St} (hE : wt_Ok X prog_1_method_33_code 3 "WornType" 8 8) (hR : wt_RtX X (some .int) 8 res.1 (some res.2.1) res.2.2) (hD : ∀ i, i < 108 → wt_dom (wt_xw X) i)  {σ : wt_St} {y0 : Int32} (h : wp_ap_cast_B16 n x1 x2 y0 σ = some res) : wt_V X 0 σ 16 [some (.ref (wt_ad (wt_xw X) 0)), some (.int x1), some (.int x2)] [.int y0] := by
  unfold wp_ap_cast_B16 at h
  obtain ⟨q3, hq3, h⟩ := wt_bi h
  refine wt_callSXv (mc := 8) (rt0 := (some .int)) hE [.int y0] wt_ld_ap_219 wt_ya_ap_miss (wp_ap_miss_ok hR.2.2.2 hq3) (by omega) rfl rfl (Nat.le_of_ble_eq_true rfl) (by decide) (by decide) wp_ap_cast_d16 (fun he => ?_) (fun he => ?_)
  · have h := wt_in he h
    cases h
    exact ⟨_, hR⟩
  have h := wt_ip he h
  refine wt_iload_n hE wp_ap_cast_d19 rfl ?_
  obtain ⟨q4, hq4, h⟩ := wt_bi h
  refine wt_callSXv (mc := 8) (rt0 := (some .int)) hE [.int x2] wt_ld_ap_253 wt_ya_ap_refuseCopies (wp_ap_refuseCopies_ok hR.2.2.2 hq4) (by omega) rfl rfl (Nat.le_of_ble_eq_true rfl) (by decide) (by decide) wp_ap_cast_d20 (fun he => ?_) (fun he => ?_)
  · have h := wt_in he h
    cases h
    exact ⟨_, hR⟩
  have h := wt_ip he h
  refine wt_aload_n hE wp_ap_cast_d23 rfl ?_
  refine wt_getr hE (r := 101) wt_lf_ap_93 (hD 0 (Nat.le_of_ble_eq_true rfl)) wt_L0 rfl wp_ap_cast_d24 ?_
  refine wt_iload_n hE wp_ap_cast_d27 rfl ?_
  refine wt_iload_n hE wp_ap_cast_d28 rfl ?_
  obtain ⟨q5, hq5, h⟩ := wt_bi h
  refine wt_callVi hE [.int x1, .int x2] wt_lm_ap_349 wt_ya_tr_bestCast (wp_tr_bestCast_ok hD hq5) (by omega) (hD 101 (Nat.le_of_ble_eq_true rfl)) wt_L101 rfl rfl rfl (Nat.le_of_ble_eq_true rfl) (by decide) wp_ap_cast_d29 (fun hbq5 => ?_)
  cases h
  exact wt_iretX hE hR (by decide) wp_ap_cast_d32
noncomputable def wp_ap_cast (n : Nat) (x1 : Int32) (x2 : Int32) (σ : wt_St) : Option (Nat × Int32 × wt_St) :=
  (wp_tx_has n x1 σ).bind fun q1 =>
  if q1.1 = 0 then
    wp_ap_cast_B16 n x1 x2 (1 : Int32) q1.2
  else
    wp_ap_cast_B16 n x1 x2 (0 : Int32) q1.2
set_option maxRecDepth 100000 in
set_option maxHeartbeats 4000000 in
theorem wp_ap_cast_ok {l : Launch} (htr : l.stackTraces = false) {w : wt_E} {n : Nat} {x1 : Int32} {x2 : Int32} (hD : ∀ i, i < 108 → wt_dom w i) {σ : wt_St} {q : Nat × Int32 × wt_St} (h : wp_ap_cast n x1 x2 σ = some q) : wt_CtrX l w wt_y_ap_cast prog_1_method_33_code 3 (some .int) 8 8 [.ref (wt_ad w 0), .int x1, .int x2] σ q.1 (some q.2.1) q.2.2 := by
  refine wt_ctrX htr wt_pl_ap_cast rfl (Nat.le_of_ble_eq_true rfl) [some (.ref (wt_ad w 0)), some (.int x1), some (.int x2)] rfl ?_
  intro X hXl hXw hE hR
  subst hXl
  subst hXw
  have hE : wt_Ok X prog_1_method_33_code 3 "WornType" 8 8 := hE
  unfold wp_ap_cast at h
  refine wt_aload_n hE wp_ap_cast_d0 rfl ?_
  refine wt_getr hE (r := 34) wt_lf_ap_39 (hD 0 (Nat.le_of_ble_eq_true rfl)) wt_L0 rfl wp_ap_cast_d1 ?_
  refine wt_iload_n hE wp_ap_cast_d4 rfl ?_
  obtain ⟨q1, hq1, h⟩ := wt_bi h
  refine wt_callVi hE [.int x1] wt_lm_ap_244 wt_ya_tx_has (wp_tx_has_ok hD hq1) (by omega) (hD 34 (Nat.le_of_ble_eq_true rfl)) wt_L34 rfl rfl rfl (Nat.le_of_ble_eq_true rfl) (by decide) wp_ap_cast_d5 (fun hbq1 => ?_)
  refine wt_if_ne hE 15 wp_ap_cast_d8 rfl (fun c2 => ?_) (fun c2 => ?_)
  · have h := wt_in c2 h
    refine wt_iconst hE (0 : Int32) wp_ap_cast_d15 wt_ci_0 ?_
    exact wp_ap_cast_B16_ok hE hR hD h
  · have h := wt_ip c2 h
    refine wt_iconst hE (1 : Int32) wp_ap_cast_d11 wt_ci_1 ?_
    refine wt_goto hE 16 wp_ap_cast_d12 rfl ?_
    exact wp_ap_cast_B16_ok hE hR hD h
def wb42thm_prog_1_method_31_code_r0 : List (List Nat) := [42, 180, 0, 29, 27, 182, 0, 215, 154, 0, 7, 4, 167, 0, 4, 3, 184, 0, 219, 42, 180, 0, 84, 27, 182, 1, 87, 172] :: []
set_option maxRecDepth 100000 in
theorem wb42thm_prog_1_method_31_code_c0 : wt_cs prog_1_method_31_code 0 wb42thm_prog_1_method_31_code_r0 := wt_cs_of (by decide +kernel)
theorem wp_ap_ends_d0 : decode prog_1_method_31_code 0 = .ok (.aload_n 0, 1) := wt_op42 wb42thm_prog_1_method_31_code_c0 0 rfl rfl
theorem wp_ap_ends_d1 : decode prog_1_method_31_code 1 = .ok (.getfield 29, 3) := wt_op180 wb42thm_prog_1_method_31_code_c0 1 rfl rfl rfl
theorem wp_ap_ends_d4 : decode prog_1_method_31_code 4 = .ok (.iload_n 1, 1) := wt_op27 wb42thm_prog_1_method_31_code_c0 4 rfl rfl
theorem wp_ap_ends_d5 : decode prog_1_method_31_code 5 = .ok (.invokevirtual 215, 3) := wt_op182 wb42thm_prog_1_method_31_code_c0 5 rfl rfl rfl
theorem wp_ap_ends_d8 : decode prog_1_method_31_code 8 = .ok (.ifCond .ne 7, 3) := wt_op154 wb42thm_prog_1_method_31_code_c0 8 rfl rfl rfl
theorem wp_ap_ends_d11 : decode prog_1_method_31_code 11 = .ok (.iconst 1, 1) := wt_op4 wb42thm_prog_1_method_31_code_c0 11 rfl rfl
theorem wp_ap_ends_d12 : decode prog_1_method_31_code 12 = .ok (.goto 4, 3) := wt_op167 wb42thm_prog_1_method_31_code_c0 12 rfl rfl rfl
theorem wp_ap_ends_d15 : decode prog_1_method_31_code 15 = .ok (.iconst 0, 1) := wt_op3 wb42thm_prog_1_method_31_code_c0 15 rfl rfl
theorem wp_ap_ends_d16 : decode prog_1_method_31_code 16 = .ok (.invokestatic 219, 3) := wt_op184 wb42thm_prog_1_method_31_code_c0 16 rfl rfl rfl
theorem wp_ap_ends_d19 : decode prog_1_method_31_code 19 = .ok (.aload_n 0, 1) := wt_op42 wb42thm_prog_1_method_31_code_c0 19 rfl rfl
theorem wp_ap_ends_d20 : decode prog_1_method_31_code 20 = .ok (.getfield 84, 3) := wt_op180 wb42thm_prog_1_method_31_code_c0 20 rfl rfl rfl
theorem wp_ap_ends_d23 : decode prog_1_method_31_code 23 = .ok (.iload_n 1, 1) := wt_op27 wb42thm_prog_1_method_31_code_c0 23 rfl rfl
theorem wp_ap_ends_d24 : decode prog_1_method_31_code 24 = .ok (.invokevirtual 343, 3) := wt_op182 wb42thm_prog_1_method_31_code_c0 24 rfl rfl rfl
theorem wp_ap_ends_d27 : decode prog_1_method_31_code 27 = .ok (.ireturn, 1) := wt_op172 wb42thm_prog_1_method_31_code_c0 27 rfl rfl
noncomputable def wp_ap_ends_B16 (n : Nat) (x1 : Int32) (y0 : Int32) (σ : wt_St) : Option (Nat × Int32 × wt_St) :=
  (wp_ap_miss n y0 σ).bind fun q3 =>
  if q3.1 = 0 then
  (wp_wk_firstLost n x1 q3.2.2).bind fun q4 =>
  some (0, q4.1, q4.2)
  else some (q3.1, 0, q3.2.2)
set_option maxRecDepth 100000 in
set_option maxHeartbeats 4000000 in
theorem wp_ap_ends_B16_ok  {x1 : Int32} {X : wt_X} {n : Nat} {res : Nat × Int32 × wt_St} (hE : wt_Ok X prog_1_method_31_code 2 "WornType" 7 8) (hR : wt_RtX X (some .int) 8 res.1 (some res.2.1) res.2.2) (hD : ∀ i, i < 108 → wt_dom (wt_xw X) i)  {σ : wt_St} {y0 : Int32} (h : wp_ap_ends_B16 n x1 y0 σ = some res) : wt_V X 0 σ 16 [some (.ref (wt_ad (wt_xw X) 0)), some (.int x1)] [.int y0] := by
  unfold wp_ap_ends_B16 at h
  obtain ⟨q3, hq3, h⟩ := wt_bi h
  refine wt_callSXv (mc := 8) (rt0 := (some .int)) hE [.int y0] wt_ld_ap_219 wt_ya_ap_miss (wp_ap_miss_ok hR.2.2.2 hq3) (by omega) rfl rfl (Nat.le_of_ble_eq_true rfl) (by decide) (by decide) wp_ap_ends_d16 (fun he => ?_) (fun he => ?_)
  · have h := wt_in he h
    cases h
    exact ⟨_, hR⟩
  have h := wt_ip he h
  refine wt_aload_n hE wp_ap_ends_d19 rfl ?_
  refine wt_getr hE (r := 86) wt_lf_ap_84 (hD 0 (Nat.le_of_ble_eq_true rfl)) wt_L0 rfl wp_ap_ends_d20 ?_
  refine wt_iload_n hE wp_ap_ends_d23 rfl ?_
  obtain ⟨q4, hq4, h⟩ := wt_bi h
  refine wt_callVi hE [.int x1] wt_lm_ap_343 wt_ya_wk_firstLost (wp_wk_firstLost_ok hD hq4) (by omega) (hD 86 (Nat.le_of_ble_eq_true rfl)) wt_L86 rfl rfl rfl (Nat.le_of_ble_eq_true rfl) (by decide) wp_ap_ends_d24 (fun hbq4 => ?_)
  cases h
  exact wt_iretX hE hR (by decide) wp_ap_ends_d27
noncomputable def wp_ap_ends (n : Nat) (x1 : Int32) (σ : wt_St) : Option (Nat × Int32 × wt_St) :=
  (wp_tg_has n 20 x1 σ).bind fun q1 =>
  if q1.1 = 0 then
    wp_ap_ends_B16 n x1 (1 : Int32) q1.2
  else
    wp_ap_ends_B16 n x1 (0 : Int32) q1.2
set_option maxRecDepth 100000 in
set_option maxHeartbeats 4000000 in
theorem wp_ap_ends_ok {l : Launch} (htr : l.stackTraces = false) {w : wt_E} {n : Nat} {x1 : Int32} (hD : ∀ i, i < 108 → wt_dom w i) {σ : wt_St} {q : Nat × Int32 × wt_St} (h : wp_ap_ends n x1 σ = some q) : wt_CtrX l w wt_y_ap_ends prog_1_method_31_code 2 (some .int) 7 8 [.ref (wt_ad w 0), .int x1] σ q.1 (some q.2.1) q.2.2 := by
  refine wt_ctrX htr wt_pl_ap_ends rfl (Nat.le_of_ble_eq_true rfl) [some (.ref (wt_ad w 0)), some (.int x1)] rfl ?_
  intro X hXl hXw hE hR
  subst hXl
  subst hXw
  have hE : wt_Ok X prog_1_method_31_code 2 "WornType" 7 8 := hE
  unfold wp_ap_ends at h
  refine wt_aload_n hE wp_ap_ends_d0 rfl ?_
  refine wt_getr hE (r := 20) wt_lf_ap_29 (hD 0 (Nat.le_of_ble_eq_true rfl)) wt_L0 rfl wp_ap_ends_d1 ?_
  refine wt_iload_n hE wp_ap_ends_d4 rfl ?_
  obtain ⟨q1, hq1, h⟩ := wt_bi h
  refine wt_callVi hE [.int x1] wt_lm_ap_215 wt_ya_tg_has (wp_tg_has_ok wt_isTongue_20 (fun j hj => hD (20 + j) (by omega)) hq1) (by omega) (hD 20 (Nat.le_of_ble_eq_true rfl)) wt_L20 rfl rfl rfl (Nat.le_of_ble_eq_true rfl) (by decide) wp_ap_ends_d5 (fun hbq1 => ?_)
  refine wt_if_ne hE 15 wp_ap_ends_d8 rfl (fun c2 => ?_) (fun c2 => ?_)
  · have h := wt_in c2 h
    refine wt_iconst hE (0 : Int32) wp_ap_ends_d15 wt_ci_0 ?_
    exact wp_ap_ends_B16_ok hE hR hD h
  · have h := wt_ip c2 h
    refine wt_iconst hE (1 : Int32) wp_ap_ends_d11 wt_ci_1 ?_
    refine wt_goto hE 16 wp_ap_ends_d12 rfl ?_
    exact wp_ap_ends_B16_ok hE hR hD h
def wb42thm_prog_1_method_32_code_r0 : List (List Nat) := [42, 180, 0, 39, 27, 182, 0, 244, 154, 0, 7, 4, 167, 0, 4, 3, 184, 0, 219, 42, 180, 0, 93, 27, 182, 1, 90, 172] :: []
set_option maxRecDepth 100000 in
theorem wb42thm_prog_1_method_32_code_c0 : wt_cs prog_1_method_32_code 0 wb42thm_prog_1_method_32_code_r0 := wt_cs_of (by decide +kernel)
theorem wp_ap_exchange_d0 : decode prog_1_method_32_code 0 = .ok (.aload_n 0, 1) := wt_op42 wb42thm_prog_1_method_32_code_c0 0 rfl rfl
theorem wp_ap_exchange_d1 : decode prog_1_method_32_code 1 = .ok (.getfield 39, 3) := wt_op180 wb42thm_prog_1_method_32_code_c0 1 rfl rfl rfl
theorem wp_ap_exchange_d4 : decode prog_1_method_32_code 4 = .ok (.iload_n 1, 1) := wt_op27 wb42thm_prog_1_method_32_code_c0 4 rfl rfl
theorem wp_ap_exchange_d5 : decode prog_1_method_32_code 5 = .ok (.invokevirtual 244, 3) := wt_op182 wb42thm_prog_1_method_32_code_c0 5 rfl rfl rfl
theorem wp_ap_exchange_d8 : decode prog_1_method_32_code 8 = .ok (.ifCond .ne 7, 3) := wt_op154 wb42thm_prog_1_method_32_code_c0 8 rfl rfl rfl
theorem wp_ap_exchange_d11 : decode prog_1_method_32_code 11 = .ok (.iconst 1, 1) := wt_op4 wb42thm_prog_1_method_32_code_c0 11 rfl rfl
theorem wp_ap_exchange_d12 : decode prog_1_method_32_code 12 = .ok (.goto 4, 3) := wt_op167 wb42thm_prog_1_method_32_code_c0 12 rfl rfl rfl
theorem wp_ap_exchange_d15 : decode prog_1_method_32_code 15 = .ok (.iconst 0, 1) := wt_op3 wb42thm_prog_1_method_32_code_c0 15 rfl rfl
theorem wp_ap_exchange_d16 : decode prog_1_method_32_code 16 = .ok (.invokestatic 219, 3) := wt_op184 wb42thm_prog_1_method_32_code_c0 16 rfl rfl rfl
theorem wp_ap_exchange_d19 : decode prog_1_method_32_code 19 = .ok (.aload_n 0, 1) := wt_op42 wb42thm_prog_1_method_32_code_c0 19 rfl rfl
theorem wp_ap_exchange_d20 : decode prog_1_method_32_code 20 = .ok (.getfield 93, 3) := wt_op180 wb42thm_prog_1_method_32_code_c0 20 rfl rfl rfl
theorem wp_ap_exchange_d23 : decode prog_1_method_32_code 23 = .ok (.iload_n 1, 1) := wt_op27 wb42thm_prog_1_method_32_code_c0 23 rfl rfl
theorem wp_ap_exchange_d24 : decode prog_1_method_32_code 24 = .ok (.invokevirtual 346, 3) := wt_op182 wb42thm_prog_1_method_32_code_c0 24 rfl rfl rfl
theorem wp_ap_exchange_d27 : decode prog_1_method_32_code 27 = .ok (.ireturn, 1) := wt_op172 wb42thm_prog_1_method_32_code_c0 27 rfl rfl
noncomputable def wp_ap_exchange_B16 (n : Nat) (x1 : Int32) (y0 : Int32) (σ : wt_St) : Option (Nat × Int32 × wt_St) :=
  (wp_ap_miss n y0 σ).bind fun q3 =>
  if q3.1 = 0 then
  (wp_tr_bestExchange n x1 q3.2.2).bind fun q4 =>
  some (0, q4.1, q4.2)
  else some (q3.1, 0, q3.2.2)
set_option maxRecDepth 100000 in
set_option maxHeartbeats 4000000 in
theorem wp_ap_exchange_B16_ok  {x1 : Int32} {X : wt_X} {n : Nat} {res : Nat × Int32 × wt_St} (hE : wt_Ok X prog_1_method_32_code 2 "WornType" 7 8) (hR : wt_RtX X (some .int) 8 res.1 (some res.2.1) res.2.2) (hD : ∀ i, i < 108 → wt_dom (wt_xw X) i)  {σ : wt_St} {y0 : Int32} (h : wp_ap_exchange_B16 n x1 y0 σ = some res) : wt_V X 0 σ 16 [some (.ref (wt_ad (wt_xw X) 0)), some (.int x1)] [.int y0] := by
  unfold wp_ap_exchange_B16 at h
  obtain ⟨q3, hq3, h⟩ := wt_bi h
  refine wt_callSXv (mc := 8) (rt0 := (some .int)) hE [.int y0] wt_ld_ap_219 wt_ya_ap_miss (wp_ap_miss_ok hR.2.2.2 hq3) (by omega) rfl rfl (Nat.le_of_ble_eq_true rfl) (by decide) (by decide) wp_ap_exchange_d16 (fun he => ?_) (fun he => ?_)
  · have h := wt_in he h
    cases h
    exact ⟨_, hR⟩
  have h := wt_ip he h
  refine wt_aload_n hE wp_ap_exchange_d19 rfl ?_
  refine wt_getr hE (r := 101) wt_lf_ap_93 (hD 0 (Nat.le_of_ble_eq_true rfl)) wt_L0 rfl wp_ap_exchange_d20 ?_
  refine wt_iload_n hE wp_ap_exchange_d23 rfl ?_
  obtain ⟨q4, hq4, h⟩ := wt_bi h
  refine wt_callVi hE [.int x1] wt_lm_ap_346 wt_ya_tr_bestExchange (wp_tr_bestExchange_ok hD hq4) (by omega) (hD 101 (Nat.le_of_ble_eq_true rfl)) wt_L101 rfl rfl rfl (Nat.le_of_ble_eq_true rfl) (by decide) wp_ap_exchange_d24 (fun hbq4 => ?_)
  cases h
  exact wt_iretX hE hR (by decide) wp_ap_exchange_d27
noncomputable def wp_ap_exchange (n : Nat) (x1 : Int32) (σ : wt_St) : Option (Nat × Int32 × wt_St) :=
  (wp_tx_has n x1 σ).bind fun q1 =>
  if q1.1 = 0 then
    wp_ap_exchange_B16 n x1 (1 : Int32) q1.2
  else
    wp_ap_exchange_B16 n x1 (0 : Int32) q1.2
set_option maxRecDepth 100000 in
set_option maxHeartbeats 4000000 in
theorem wp_ap_exchange_ok {l : Launch} (htr : l.stackTraces = false) {w : wt_E} {n : Nat} {x1 : Int32} (hD : ∀ i, i < 108 → wt_dom w i) {σ : wt_St} {q : Nat × Int32 × wt_St} (h : wp_ap_exchange n x1 σ = some q) : wt_CtrX l w wt_y_ap_exchange prog_1_method_32_code 2 (some .int) 7 8 [.ref (wt_ad w 0), .int x1] σ q.1 (some q.2.1) q.2.2 := by
  refine wt_ctrX htr wt_pl_ap_exchange rfl (Nat.le_of_ble_eq_true rfl) [some (.ref (wt_ad w 0)), some (.int x1)] rfl ?_
  intro X hXl hXw hE hR
  subst hXl
  subst hXw
  have hE : wt_Ok X prog_1_method_32_code 2 "WornType" 7 8 := hE
  unfold wp_ap_exchange at h
  refine wt_aload_n hE wp_ap_exchange_d0 rfl ?_
  refine wt_getr hE (r := 34) wt_lf_ap_39 (hD 0 (Nat.le_of_ble_eq_true rfl)) wt_L0 rfl wp_ap_exchange_d1 ?_
  refine wt_iload_n hE wp_ap_exchange_d4 rfl ?_
  obtain ⟨q1, hq1, h⟩ := wt_bi h
  refine wt_callVi hE [.int x1] wt_lm_ap_244 wt_ya_tx_has (wp_tx_has_ok hD hq1) (by omega) (hD 34 (Nat.le_of_ble_eq_true rfl)) wt_L34 rfl rfl rfl (Nat.le_of_ble_eq_true rfl) (by decide) wp_ap_exchange_d5 (fun hbq1 => ?_)
  refine wt_if_ne hE 15 wp_ap_exchange_d8 rfl (fun c2 => ?_) (fun c2 => ?_)
  · have h := wt_in c2 h
    refine wt_iconst hE (0 : Int32) wp_ap_exchange_d15 wt_ci_0 ?_
    exact wp_ap_exchange_B16_ok hE hR hD h
  · have h := wt_ip c2 h
    refine wt_iconst hE (1 : Int32) wp_ap_exchange_d11 wt_ci_1 ?_
    refine wt_goto hE 16 wp_ap_exchange_d12 rfl ?_
    exact wp_ap_exchange_B16_ok hE hR hD h
def wb42thm_prog_1_method_22_code_r2 : List (List Nat) := [42, 180, 0, 75, 27, 28, 182, 1, 46, 42, 180, 0, 75, 27, 29, 21, 4, 182, 1, 39, 172] :: []
def wb42thm_prog_1_method_22_code_r1 : List (List Nat) := [21, 4, 4, 164, 0, 7, 4, 167, 0, 4, 3, 184, 0, 112, 42, 180, 0, 75, 27, 182, 1, 43, 153, 0, 6, 16, 254, 172] :: wb42thm_prog_1_method_22_code_r2
def wb42thm_prog_1_method_22_code_r0 : List (List Nat) := [42, 180, 0, 39, 27, 182, 0, 244, 154, 0, 7, 4, 167, 0, 4, 3, 184, 0, 219, 28, 184, 0, 253, 21, 4, 155, 0, 9] :: wb42thm_prog_1_method_22_code_r1
set_option maxRecDepth 100000 in
theorem wb42thm_prog_1_method_22_code_c0 : wt_cs prog_1_method_22_code 0 wb42thm_prog_1_method_22_code_r0 := wt_cs_of (by decide +kernel)
theorem wb42thm_prog_1_method_22_code_c1 : wt_cs prog_1_method_22_code 28 wb42thm_prog_1_method_22_code_r1 := wt_cs_tl (m := 28) wb42thm_prog_1_method_22_code_c0 rfl rfl
theorem wb42thm_prog_1_method_22_code_c2 : wt_cs prog_1_method_22_code 56 wb42thm_prog_1_method_22_code_r2 := wt_cs_tl (m := 28) wb42thm_prog_1_method_22_code_c1 rfl rfl
theorem wp_ap_fitting_d0 : decode prog_1_method_22_code 0 = .ok (.aload_n 0, 1) := wt_op42 wb42thm_prog_1_method_22_code_c0 0 rfl rfl
theorem wp_ap_fitting_d1 : decode prog_1_method_22_code 1 = .ok (.getfield 39, 3) := wt_op180 wb42thm_prog_1_method_22_code_c0 1 rfl rfl rfl
theorem wp_ap_fitting_d4 : decode prog_1_method_22_code 4 = .ok (.iload_n 1, 1) := wt_op27 wb42thm_prog_1_method_22_code_c0 4 rfl rfl
theorem wp_ap_fitting_d5 : decode prog_1_method_22_code 5 = .ok (.invokevirtual 244, 3) := wt_op182 wb42thm_prog_1_method_22_code_c0 5 rfl rfl rfl
theorem wp_ap_fitting_d8 : decode prog_1_method_22_code 8 = .ok (.ifCond .ne 7, 3) := wt_op154 wb42thm_prog_1_method_22_code_c0 8 rfl rfl rfl
theorem wp_ap_fitting_d11 : decode prog_1_method_22_code 11 = .ok (.iconst 1, 1) := wt_op4 wb42thm_prog_1_method_22_code_c0 11 rfl rfl
theorem wp_ap_fitting_d12 : decode prog_1_method_22_code 12 = .ok (.goto 4, 3) := wt_op167 wb42thm_prog_1_method_22_code_c0 12 rfl rfl rfl
theorem wp_ap_fitting_d15 : decode prog_1_method_22_code 15 = .ok (.iconst 0, 1) := wt_op3 wb42thm_prog_1_method_22_code_c0 15 rfl rfl
theorem wp_ap_fitting_d16 : decode prog_1_method_22_code 16 = .ok (.invokestatic 219, 3) := wt_op184 wb42thm_prog_1_method_22_code_c0 16 rfl rfl rfl
theorem wp_ap_fitting_d19 : decode prog_1_method_22_code 19 = .ok (.iload_n 2, 1) := wt_op28 wb42thm_prog_1_method_22_code_c0 19 rfl rfl
theorem wp_ap_fitting_d20 : decode prog_1_method_22_code 20 = .ok (.invokestatic 253, 3) := wt_op184 wb42thm_prog_1_method_22_code_c0 20 rfl rfl rfl
theorem wp_ap_fitting_d23 : decode prog_1_method_22_code 23 = .ok (.iload 4, 2) := wt_op21 wb42thm_prog_1_method_22_code_c0 23 rfl rfl
theorem wp_ap_fitting_d25 : decode prog_1_method_22_code 25 = .ok (.ifCond .lt 9, 3) := wt_op155 wb42thm_prog_1_method_22_code_c0 25 rfl rfl rfl
theorem wp_ap_fitting_d28 : decode prog_1_method_22_code 28 = .ok (.iload 4, 2) := wt_op21 wb42thm_prog_1_method_22_code_c1 0 rfl rfl
theorem wp_ap_fitting_d30 : decode prog_1_method_22_code 30 = .ok (.iconst 1, 1) := wt_op4 wb42thm_prog_1_method_22_code_c1 2 rfl rfl
theorem wp_ap_fitting_d31 : decode prog_1_method_22_code 31 = .ok (.if_icmp .le 7, 3) := wt_op164 wb42thm_prog_1_method_22_code_c1 3 rfl rfl rfl
theorem wp_ap_fitting_d34 : decode prog_1_method_22_code 34 = .ok (.iconst 1, 1) := wt_op4 wb42thm_prog_1_method_22_code_c1 6 rfl rfl
theorem wp_ap_fitting_d35 : decode prog_1_method_22_code 35 = .ok (.goto 4, 3) := wt_op167 wb42thm_prog_1_method_22_code_c1 7 rfl rfl rfl
theorem wp_ap_fitting_d38 : decode prog_1_method_22_code 38 = .ok (.iconst 0, 1) := wt_op3 wb42thm_prog_1_method_22_code_c1 10 rfl rfl
theorem wp_ap_fitting_d39 : decode prog_1_method_22_code 39 = .ok (.invokestatic 112, 3) := wt_op184 wb42thm_prog_1_method_22_code_c1 11 rfl rfl rfl
theorem wp_ap_fitting_d42 : decode prog_1_method_22_code 42 = .ok (.aload_n 0, 1) := wt_op42 wb42thm_prog_1_method_22_code_c1 14 rfl rfl
theorem wp_ap_fitting_d43 : decode prog_1_method_22_code 43 = .ok (.getfield 75, 3) := wt_op180 wb42thm_prog_1_method_22_code_c1 15 rfl rfl rfl
theorem wp_ap_fitting_d46 : decode prog_1_method_22_code 46 = .ok (.iload_n 1, 1) := wt_op27 wb42thm_prog_1_method_22_code_c1 18 rfl rfl
theorem wp_ap_fitting_d47 : decode prog_1_method_22_code 47 = .ok (.invokevirtual 299, 3) := wt_op182 wb42thm_prog_1_method_22_code_c1 19 rfl rfl rfl
theorem wp_ap_fitting_d50 : decode prog_1_method_22_code 50 = .ok (.ifCond .eq 6, 3) := wt_op153 wb42thm_prog_1_method_22_code_c1 22 rfl rfl rfl
theorem wp_ap_fitting_d53 : decode prog_1_method_22_code 53 = .ok (.bipush (-2), 2) := wt_op16 wb42thm_prog_1_method_22_code_c1 25 rfl rfl rfl
theorem wp_ap_fitting_d55 : decode prog_1_method_22_code 55 = .ok (.ireturn, 1) := wt_op172 wb42thm_prog_1_method_22_code_c1 27 rfl rfl
theorem wp_ap_fitting_d56 : decode prog_1_method_22_code 56 = .ok (.aload_n 0, 1) := wt_op42 wb42thm_prog_1_method_22_code_c2 0 rfl rfl
theorem wp_ap_fitting_d57 : decode prog_1_method_22_code 57 = .ok (.getfield 75, 3) := wt_op180 wb42thm_prog_1_method_22_code_c2 1 rfl rfl rfl
theorem wp_ap_fitting_d60 : decode prog_1_method_22_code 60 = .ok (.iload_n 1, 1) := wt_op27 wb42thm_prog_1_method_22_code_c2 4 rfl rfl
theorem wp_ap_fitting_d61 : decode prog_1_method_22_code 61 = .ok (.iload_n 2, 1) := wt_op28 wb42thm_prog_1_method_22_code_c2 5 rfl rfl
theorem wp_ap_fitting_d62 : decode prog_1_method_22_code 62 = .ok (.invokevirtual 302, 3) := wt_op182 wb42thm_prog_1_method_22_code_c2 6 rfl rfl rfl
theorem wp_ap_fitting_d65 : decode prog_1_method_22_code 65 = .ok (.aload_n 0, 1) := wt_op42 wb42thm_prog_1_method_22_code_c2 9 rfl rfl
theorem wp_ap_fitting_d66 : decode prog_1_method_22_code 66 = .ok (.getfield 75, 3) := wt_op180 wb42thm_prog_1_method_22_code_c2 10 rfl rfl rfl
theorem wp_ap_fitting_d69 : decode prog_1_method_22_code 69 = .ok (.iload_n 1, 1) := wt_op27 wb42thm_prog_1_method_22_code_c2 13 rfl rfl
theorem wp_ap_fitting_d70 : decode prog_1_method_22_code 70 = .ok (.iload_n 3, 1) := wt_op29 wb42thm_prog_1_method_22_code_c2 14 rfl rfl
theorem wp_ap_fitting_d71 : decode prog_1_method_22_code 71 = .ok (.iload 4, 2) := wt_op21 wb42thm_prog_1_method_22_code_c2 15 rfl rfl
theorem wp_ap_fitting_d73 : decode prog_1_method_22_code 73 = .ok (.invokevirtual 295, 3) := wt_op182 wb42thm_prog_1_method_22_code_c2 17 rfl rfl rfl
theorem wp_ap_fitting_d76 : decode prog_1_method_22_code 76 = .ok (.ireturn, 1) := wt_op172 wb42thm_prog_1_method_22_code_c2 20 rfl rfl
noncomputable def wp_ap_fitting_B39 (n : Nat) (x1 : Int32) (x2 : Int32) (x3 : Int32) (x4 : Int32) (y0 : Int32) (σ : wt_St) : Option (Nat × Int32 × wt_St) :=
  (wp_ap_refuse n y0 σ).bind fun q6 =>
  if q6.1 = 0 then
  (wp_rw_tooMany n x1 q6.2.2).bind fun q7 =>
  if q7.1 = 0 then
    (wp_rw_findFitting n x1 x2 q7.2).bind fun q9 =>
    (wp_rw_found n x1 x3 x4 q9).bind fun q10 =>
    some (0, q10.1, q10.2)
  else
    some (0, (-2 : Int32), q7.2)
  else some (q6.1, 0, q6.2.2)
set_option maxRecDepth 100000 in
set_option maxHeartbeats 4000000 in
theorem wp_ap_fitting_B39_ok  {x1 : Int32} {x2 : Int32} {x3 : Int32} {x4 : Int32} {X : wt_X} {n : Nat} {res : Nat × Int32 × wt_St} (hE : wt_Ok X prog_1_method_22_code 5 "WornType" 21 8) (hR : wt_RtX X (some .int) 8 res.1 (some res.2.1) res.2.2) (hD : ∀ i, i < 108 → wt_dom (wt_xw X) i)  {σ : wt_St} {y0 : Int32} (h : wp_ap_fitting_B39 n x1 x2 x3 x4 y0 σ = some res) : wt_V X 2 σ 39 [some (.ref (wt_ad (wt_xw X) 0)), some (.int x1), some (.int x2), some (.int x3), some (.int x4)] [.int y0] := by
  unfold wp_ap_fitting_B39 at h
  obtain ⟨q6, hq6, h⟩ := wt_bi h
  refine wt_callSXv (mc := 8) (rt0 := (some .int)) hE [.int y0] wt_ld_ap_112 wt_ya_ap_refuse (wp_ap_refuse_ok hR.2.2.2 hq6) (by omega) rfl rfl (Nat.le_of_ble_eq_true rfl) (by decide) (by decide) wp_ap_fitting_d39 (fun he => ?_) (fun he => ?_)
  · have h := wt_in he h
    cases h
    exact ⟨_, hR⟩
  have h := wt_ip he h
  refine wt_aload_n hE wp_ap_fitting_d42 rfl ?_
  refine wt_getr hE (r := 81) wt_lf_ap_75 (hD 0 (Nat.le_of_ble_eq_true rfl)) wt_L0 rfl wp_ap_fitting_d43 ?_
  refine wt_iload_n hE wp_ap_fitting_d46 rfl ?_
  obtain ⟨q7, hq7, h⟩ := wt_bi h
  refine wt_callVi hE [.int x1] wt_lm_ap_299 wt_ya_rw_tooMany (wp_rw_tooMany_ok hD hq7) (by omega) (hD 81 (Nat.le_of_ble_eq_true rfl)) wt_L81 rfl rfl rfl (Nat.le_of_ble_eq_true rfl) (by decide) wp_ap_fitting_d47 (fun hbq7 => ?_)
  refine wt_if_eq hE 56 wp_ap_fitting_d50 rfl (fun c8 => ?_) (fun c8 => ?_)
  · have h := wt_ip c8 h
    refine wt_aload_n hE wp_ap_fitting_d56 rfl ?_
    refine wt_getr hE (r := 81) wt_lf_ap_75 (hD 0 (Nat.le_of_ble_eq_true rfl)) wt_L0 rfl wp_ap_fitting_d57 ?_
    refine wt_iload_n hE wp_ap_fitting_d60 rfl ?_
    refine wt_iload_n hE wp_ap_fitting_d61 rfl ?_
    obtain ⟨q9, hq9, h⟩ := wt_bi h
    refine wt_callVv hE [.int x1, .int x2] wt_lm_ap_302 wt_ya_rw_findFitting (wp_rw_findFitting_ok hD hq9) (by omega) (hD 81 (Nat.le_of_ble_eq_true rfl)) wt_L81 rfl rfl rfl (Nat.le_of_ble_eq_true rfl) (by decide) wp_ap_fitting_d62 ?_
    refine wt_aload_n hE wp_ap_fitting_d65 rfl ?_
    refine wt_getr hE (r := 81) wt_lf_ap_75 (hD 0 (Nat.le_of_ble_eq_true rfl)) wt_L0 rfl wp_ap_fitting_d66 ?_
    refine wt_iload_n hE wp_ap_fitting_d69 rfl ?_
    refine wt_iload_n hE wp_ap_fitting_d70 rfl ?_
    refine wt_iload hE wp_ap_fitting_d71 rfl ?_
    obtain ⟨q10, hq10, h⟩ := wt_bi h
    refine wt_callVi hE [.int x1, .int x3, .int x4] wt_lm_ap_295 wt_ya_rw_found (wp_rw_found_ok hD hq10) (by omega) (hD 81 (Nat.le_of_ble_eq_true rfl)) wt_L81 rfl rfl rfl (Nat.le_of_ble_eq_true rfl) (by decide) wp_ap_fitting_d73 (fun hbq10 => ?_)
    cases h
    exact wt_iretX hE hR (by decide) wp_ap_fitting_d76
  · have h := wt_in c8 h
    refine wt_bipush hE (-2 : Int32) wp_ap_fitting_d53 wt_cb_m2 ?_
    cases h
    exact wt_iretX hE hR (by decide) wp_ap_fitting_d55
noncomputable def wp_ap_fitting_B34 (n : Nat) (x1 : Int32) (x2 : Int32) (x3 : Int32) (x4 : Int32) (σ : wt_St) : Option (Nat × Int32 × wt_St) :=
  wp_ap_fitting_B39 n x1 x2 x3 x4 (1 : Int32) σ
set_option maxRecDepth 100000 in
set_option maxHeartbeats 4000000 in
theorem wp_ap_fitting_B34_ok  {x1 : Int32} {x2 : Int32} {x3 : Int32} {x4 : Int32} {X : wt_X} {n : Nat} {res : Nat × Int32 × wt_St} (hE : wt_Ok X prog_1_method_22_code 5 "WornType" 21 8) (hR : wt_RtX X (some .int) 8 res.1 (some res.2.1) res.2.2) (hD : ∀ i, i < 108 → wt_dom (wt_xw X) i)  {σ : wt_St} (h : wp_ap_fitting_B34 n x1 x2 x3 x4 σ = some res) : wt_V X 2 σ 34 [some (.ref (wt_ad (wt_xw X) 0)), some (.int x1), some (.int x2), some (.int x3), some (.int x4)] [] := by
  unfold wp_ap_fitting_B34 at h
  refine wt_iconst hE (1 : Int32) wp_ap_fitting_d34 wt_ci_1 ?_
  refine wt_goto hE 39 wp_ap_fitting_d35 rfl ?_
  exact wp_ap_fitting_B39_ok hE hR hD h
noncomputable def wp_ap_fitting_B16 (n : Nat) (x1 : Int32) (x2 : Int32) (x3 : Int32) (x4 : Int32) (y0 : Int32) (σ : wt_St) : Option (Nat × Int32 × wt_St) :=
  (wp_ap_miss n y0 σ).bind fun q3 =>
  if q3.1 = 0 then
  (wp_ap_refuseCopies n x2 q3.2.2).bind fun q4 =>
  if q4.1 = 0 then
  if x4 < 0 then
    wp_ap_fitting_B34 n x1 x2 x3 x4 q4.2.2
  else
    if x4 ≤ (1 : Int32) then
      wp_ap_fitting_B39 n x1 x2 x3 x4 (0 : Int32) q4.2.2
    else
      wp_ap_fitting_B34 n x1 x2 x3 x4 q4.2.2
  else some (q4.1, 0, q4.2.2)
  else some (q3.1, 0, q3.2.2)
set_option maxRecDepth 100000 in
set_option maxHeartbeats 4000000 in
theorem wp_ap_fitting_B16_ok  {x1 : Int32} {x2 : Int32} {x3 : Int32} {x4 : Int32} {X : wt_X} {n : Nat} {res : Nat × Int32 × wt_St} (hE : wt_Ok X prog_1_method_22_code 5 "WornType" 21 8) (hR : wt_RtX X (some .int) 8 res.1 (some res.2.1) res.2.2) (hD : ∀ i, i < 108 → wt_dom (wt_xw X) i)  {σ : wt_St} {y0 : Int32} (h : wp_ap_fitting_B16 n x1 x2 x3 x4 y0 σ = some res) : wt_V X 0 σ 16 [some (.ref (wt_ad (wt_xw X) 0)), some (.int x1), some (.int x2), some (.int x3), some (.int x4)] [.int y0] := by
  unfold wp_ap_fitting_B16 at h
  obtain ⟨q3, hq3, h⟩ := wt_bi h
  refine wt_callSXv (mc := 8) (rt0 := (some .int)) hE [.int y0] wt_ld_ap_219 wt_ya_ap_miss (wp_ap_miss_ok hR.2.2.2 hq3) (by omega) rfl rfl (Nat.le_of_ble_eq_true rfl) (by decide) (by decide) wp_ap_fitting_d16 (fun he => ?_) (fun he => ?_)
  · have h := wt_in he h
    cases h
    exact ⟨_, hR⟩
  have h := wt_ip he h
  refine wt_iload_n hE wp_ap_fitting_d19 rfl ?_
  obtain ⟨q4, hq4, h⟩ := wt_bi h
  refine wt_callSXv (mc := 8) (rt0 := (some .int)) hE [.int x2] wt_ld_ap_253 wt_ya_ap_refuseCopies (wp_ap_refuseCopies_ok hR.2.2.2 hq4) (by omega) rfl rfl (Nat.le_of_ble_eq_true rfl) (by decide) (by decide) wp_ap_fitting_d20 (fun he => ?_) (fun he => ?_)
  · have h := wt_in he h
    cases h
    exact ⟨_, hR⟩
  have h := wt_ip he h
  refine wt_iload hE wp_ap_fitting_d23 rfl ?_
  refine wt_if_lt hE 34 wp_ap_fitting_d25 rfl (fun c5 => ?_) (fun c5 => ?_)
  · have h := wt_ip c5 h
    exact wp_ap_fitting_B34_ok hE hR hD h
  · have h := wt_in c5 h
    refine wt_iload hE wp_ap_fitting_d28 rfl ?_
    refine wt_iconst hE (1 : Int32) wp_ap_fitting_d30 wt_ci_1 ?_
    refine wt_icmp_le hE 38 wp_ap_fitting_d31 rfl (fun c11 => ?_) (fun c11 => ?_)
    · have h := wt_ip c11 h
      refine wt_iconst hE (0 : Int32) wp_ap_fitting_d38 wt_ci_0 ?_
      exact wp_ap_fitting_B39_ok hE hR hD h
    · have h := wt_in c11 h
      exact wp_ap_fitting_B34_ok hE hR hD h
noncomputable def wp_ap_fitting (n : Nat) (x1 : Int32) (x2 : Int32) (x3 : Int32) (x4 : Int32) (σ : wt_St) : Option (Nat × Int32 × wt_St) :=
  (wp_tx_has n x1 σ).bind fun q1 =>
  if q1.1 = 0 then
    wp_ap_fitting_B16 n x1 x2 x3 x4 (1 : Int32) q1.2
  else
    wp_ap_fitting_B16 n x1 x2 x3 x4 (0 : Int32) q1.2
set_option maxRecDepth 100000 in
set_option maxHeartbeats 4000000 in
theorem wp_ap_fitting_ok {l : Launch} (htr : l.stackTraces = false) {w : wt_E} {n : Nat} {x1 : Int32} {x2 : Int32} {x3 : Int32} {x4 : Int32} (hD : ∀ i, i < 108 → wt_dom w i) {σ : wt_St} {q : Nat × Int32 × wt_St} (h : wp_ap_fitting n x1 x2 x3 x4 σ = some q) : wt_CtrX l w wt_y_ap_fitting prog_1_method_22_code 5 (some .int) 21 8 [.ref (wt_ad w 0), .int x1, .int x2, .int x3, .int x4] σ q.1 (some q.2.1) q.2.2 := by
  refine wt_ctrX htr wt_pl_ap_fitting rfl (Nat.le_of_ble_eq_true rfl) [some (.ref (wt_ad w 0)), some (.int x1), some (.int x2), some (.int x3), some (.int x4)] rfl ?_
  intro X hXl hXw hE hR
  subst hXl
  subst hXw
  have hE : wt_Ok X prog_1_method_22_code 5 "WornType" 21 8 := hE
  unfold wp_ap_fitting at h
  refine wt_aload_n hE wp_ap_fitting_d0 rfl ?_
  refine wt_getr hE (r := 34) wt_lf_ap_39 (hD 0 (Nat.le_of_ble_eq_true rfl)) wt_L0 rfl wp_ap_fitting_d1 ?_
  refine wt_iload_n hE wp_ap_fitting_d4 rfl ?_
  obtain ⟨q1, hq1, h⟩ := wt_bi h
  refine wt_callVi hE [.int x1] wt_lm_ap_244 wt_ya_tx_has (wp_tx_has_ok hD hq1) (by omega) (hD 34 (Nat.le_of_ble_eq_true rfl)) wt_L34 rfl rfl rfl (Nat.le_of_ble_eq_true rfl) (by decide) wp_ap_fitting_d5 (fun hbq1 => ?_)
  refine wt_if_ne hE 15 wp_ap_fitting_d8 rfl (fun c2 => ?_) (fun c2 => ?_)
  · have h := wt_in c2 h
    refine wt_iconst hE (0 : Int32) wp_ap_fitting_d15 wt_ci_0 ?_
    exact wp_ap_fitting_B16_ok hE hR hD h
  · have h := wt_ip c2 h
    refine wt_iconst hE (1 : Int32) wp_ap_fitting_d11 wt_ci_1 ?_
    refine wt_goto hE 16 wp_ap_fitting_d12 rfl ?_
    exact wp_ap_fitting_B16_ok hE hR hD h
def wb42thm_prog_1_method_27_code_r1 : List (List Nat) := [42, 180, 0, 84, 180, 1, 69, 167, 0, 10, 42, 180, 0, 84, 180, 1, 72, 172] :: []
def wb42thm_prog_1_method_27_code_r0 : List (List Nat) := [27, 155, 0, 8, 27, 4, 164, 0, 7, 4, 167, 0, 4, 3, 184, 0, 112, 42, 180, 0, 84, 16, 100, 182, 1, 75, 27, 154, 0, 13] :: wb42thm_prog_1_method_27_code_r1
set_option maxRecDepth 100000 in
theorem wb42thm_prog_1_method_27_code_c0 : wt_cs prog_1_method_27_code 0 wb42thm_prog_1_method_27_code_r0 := wt_cs_of (by decide +kernel)
theorem wb42thm_prog_1_method_27_code_c1 : wt_cs prog_1_method_27_code 30 wb42thm_prog_1_method_27_code_r1 := wt_cs_tl (m := 30) wb42thm_prog_1_method_27_code_c0 rfl rfl
theorem wp_ap_greedy_d0 : decode prog_1_method_27_code 0 = .ok (.iload_n 1, 1) := wt_op27 wb42thm_prog_1_method_27_code_c0 0 rfl rfl
theorem wp_ap_greedy_d1 : decode prog_1_method_27_code 1 = .ok (.ifCond .lt 8, 3) := wt_op155 wb42thm_prog_1_method_27_code_c0 1 rfl rfl rfl
theorem wp_ap_greedy_d4 : decode prog_1_method_27_code 4 = .ok (.iload_n 1, 1) := wt_op27 wb42thm_prog_1_method_27_code_c0 4 rfl rfl
theorem wp_ap_greedy_d5 : decode prog_1_method_27_code 5 = .ok (.iconst 1, 1) := wt_op4 wb42thm_prog_1_method_27_code_c0 5 rfl rfl
theorem wp_ap_greedy_d6 : decode prog_1_method_27_code 6 = .ok (.if_icmp .le 7, 3) := wt_op164 wb42thm_prog_1_method_27_code_c0 6 rfl rfl rfl
theorem wp_ap_greedy_d9 : decode prog_1_method_27_code 9 = .ok (.iconst 1, 1) := wt_op4 wb42thm_prog_1_method_27_code_c0 9 rfl rfl
theorem wp_ap_greedy_d10 : decode prog_1_method_27_code 10 = .ok (.goto 4, 3) := wt_op167 wb42thm_prog_1_method_27_code_c0 10 rfl rfl rfl
theorem wp_ap_greedy_d13 : decode prog_1_method_27_code 13 = .ok (.iconst 0, 1) := wt_op3 wb42thm_prog_1_method_27_code_c0 13 rfl rfl
theorem wp_ap_greedy_d14 : decode prog_1_method_27_code 14 = .ok (.invokestatic 112, 3) := wt_op184 wb42thm_prog_1_method_27_code_c0 14 rfl rfl rfl
theorem wp_ap_greedy_d17 : decode prog_1_method_27_code 17 = .ok (.aload_n 0, 1) := wt_op42 wb42thm_prog_1_method_27_code_c0 17 rfl rfl
theorem wp_ap_greedy_d18 : decode prog_1_method_27_code 18 = .ok (.getfield 84, 3) := wt_op180 wb42thm_prog_1_method_27_code_c0 18 rfl rfl rfl
theorem wp_ap_greedy_d21 : decode prog_1_method_27_code 21 = .ok (.bipush 100, 2) := wt_op16 wb42thm_prog_1_method_27_code_c0 21 rfl rfl rfl
theorem wp_ap_greedy_d23 : decode prog_1_method_27_code 23 = .ok (.invokevirtual 331, 3) := wt_op182 wb42thm_prog_1_method_27_code_c0 23 rfl rfl rfl
theorem wp_ap_greedy_d26 : decode prog_1_method_27_code 26 = .ok (.iload_n 1, 1) := wt_op27 wb42thm_prog_1_method_27_code_c0 26 rfl rfl
theorem wp_ap_greedy_d27 : decode prog_1_method_27_code 27 = .ok (.ifCond .ne 13, 3) := wt_op154 wb42thm_prog_1_method_27_code_c0 27 rfl rfl rfl
theorem wp_ap_greedy_d30 : decode prog_1_method_27_code 30 = .ok (.aload_n 0, 1) := wt_op42 wb42thm_prog_1_method_27_code_c1 0 rfl rfl
theorem wp_ap_greedy_d31 : decode prog_1_method_27_code 31 = .ok (.getfield 84, 3) := wt_op180 wb42thm_prog_1_method_27_code_c1 1 rfl rfl rfl
theorem wp_ap_greedy_d34 : decode prog_1_method_27_code 34 = .ok (.getfield 325, 3) := wt_op180 wb42thm_prog_1_method_27_code_c1 4 rfl rfl rfl
theorem wp_ap_greedy_d37 : decode prog_1_method_27_code 37 = .ok (.goto 10, 3) := wt_op167 wb42thm_prog_1_method_27_code_c1 7 rfl rfl rfl
theorem wp_ap_greedy_d40 : decode prog_1_method_27_code 40 = .ok (.aload_n 0, 1) := wt_op42 wb42thm_prog_1_method_27_code_c1 10 rfl rfl
theorem wp_ap_greedy_d41 : decode prog_1_method_27_code 41 = .ok (.getfield 84, 3) := wt_op180 wb42thm_prog_1_method_27_code_c1 11 rfl rfl rfl
theorem wp_ap_greedy_d44 : decode prog_1_method_27_code 44 = .ok (.getfield 328, 3) := wt_op180 wb42thm_prog_1_method_27_code_c1 14 rfl rfl rfl
theorem wp_ap_greedy_d47 : decode prog_1_method_27_code 47 = .ok (.ireturn, 1) := wt_op172 wb42thm_prog_1_method_27_code_c1 17 rfl rfl
noncomputable def wp_ap_greedy_B14 (n : Nat) (x1 : Int32) (y0 : Int32) (σ : wt_St) : Option (Nat × Int32 × wt_St) :=
  (wp_ap_refuse n y0 σ).bind fun q2 =>
  if q2.1 = 0 then
  (wp_wk_printGreedily n (100 : Int32) q2.2.2).bind fun q3 =>
  if x1 = 0 then
    some (0, (wt_gf q3 86 8), q3)
  else
    some (0, (wt_gf q3 86 9), q3)
  else some (q2.1, 0, q2.2.2)
set_option maxRecDepth 100000 in
set_option maxHeartbeats 4000000 in
theorem wp_ap_greedy_B14_ok  {x1 : Int32} {X : wt_X} {n : Nat} {res : Nat × Int32 × wt_St} (hE : wt_Ok X prog_1_method_27_code 2 "WornType" 7 8) (hR : wt_RtX X (some .int) 8 res.1 (some res.2.1) res.2.2) (hD : ∀ i, i < 108 → wt_dom (wt_xw X) i)  {σ : wt_St} {y0 : Int32} (h : wp_ap_greedy_B14 n x1 y0 σ = some res) : wt_V X 0 σ 14 [some (.ref (wt_ad (wt_xw X) 0)), some (.int x1)] [.int y0] := by
  unfold wp_ap_greedy_B14 at h
  obtain ⟨q2, hq2, h⟩ := wt_bi h
  refine wt_callSXv (mc := 8) (rt0 := (some .int)) hE [.int y0] wt_ld_ap_112 wt_ya_ap_refuse (wp_ap_refuse_ok hR.2.2.2 hq2) (by omega) rfl rfl (Nat.le_of_ble_eq_true rfl) (by decide) (by decide) wp_ap_greedy_d14 (fun he => ?_) (fun he => ?_)
  · have h := wt_in he h
    cases h
    exact ⟨_, hR⟩
  have h := wt_ip he h
  refine wt_aload_n hE wp_ap_greedy_d17 rfl ?_
  refine wt_getr hE (r := 86) wt_lf_ap_84 (hD 0 (Nat.le_of_ble_eq_true rfl)) wt_L0 rfl wp_ap_greedy_d18 ?_
  refine wt_bipush hE (100 : Int32) wp_ap_greedy_d21 wt_cb_100 ?_
  obtain ⟨q3, hq3, h⟩ := wt_bi h
  refine wt_callVv hE [.int (100 : Int32)] wt_lm_ap_331 wt_ya_wk_printGreedily (wp_wk_printGreedily_ok hD hq3) (by omega) (hD 86 (Nat.le_of_ble_eq_true rfl)) wt_L86 rfl rfl rfl (Nat.le_of_ble_eq_true rfl) (by decide) wp_ap_greedy_d23 ?_
  refine wt_iload_n hE wp_ap_greedy_d26 rfl ?_
  refine wt_if_ne hE 40 wp_ap_greedy_d27 rfl (fun c4 => ?_) (fun c4 => ?_)
  · have h := wt_in c4 h
    refine wt_aload_n hE wp_ap_greedy_d40 rfl ?_
    refine wt_getr hE (r := 86) wt_lf_ap_84 (hD 0 (Nat.le_of_ble_eq_true rfl)) wt_L0 rfl wp_ap_greedy_d41 ?_
    refine wt_geti hE wt_lf_ap_328 (hD 86 (Nat.le_of_ble_eq_true rfl)) wt_L86 rfl wp_ap_greedy_d44 ?_
    cases h
    exact wt_iretX hE hR (by decide) wp_ap_greedy_d47
  · have h := wt_ip c4 h
    refine wt_aload_n hE wp_ap_greedy_d30 rfl ?_
    refine wt_getr hE (r := 86) wt_lf_ap_84 (hD 0 (Nat.le_of_ble_eq_true rfl)) wt_L0 rfl wp_ap_greedy_d31 ?_
    refine wt_geti hE wt_lf_ap_325 (hD 86 (Nat.le_of_ble_eq_true rfl)) wt_L86 rfl wp_ap_greedy_d34 ?_
    refine wt_goto hE 47 wp_ap_greedy_d37 rfl ?_
    cases h
    exact wt_iretX hE hR (by decide) wp_ap_greedy_d47
noncomputable def wp_ap_greedy_B9 (n : Nat) (x1 : Int32) (σ : wt_St) : Option (Nat × Int32 × wt_St) :=
  wp_ap_greedy_B14 n x1 (1 : Int32) σ
set_option maxRecDepth 100000 in
set_option maxHeartbeats 4000000 in
theorem wp_ap_greedy_B9_ok  {x1 : Int32} {X : wt_X} {n : Nat} {res : Nat × Int32 × wt_St} (hE : wt_Ok X prog_1_method_27_code 2 "WornType" 7 8) (hR : wt_RtX X (some .int) 8 res.1 (some res.2.1) res.2.2) (hD : ∀ i, i < 108 → wt_dom (wt_xw X) i)  {σ : wt_St} (h : wp_ap_greedy_B9 n x1 σ = some res) : wt_V X 0 σ 9 [some (.ref (wt_ad (wt_xw X) 0)), some (.int x1)] [] := by
  unfold wp_ap_greedy_B9 at h
  refine wt_iconst hE (1 : Int32) wp_ap_greedy_d9 wt_ci_1 ?_
  refine wt_goto hE 14 wp_ap_greedy_d10 rfl ?_
  exact wp_ap_greedy_B14_ok hE hR hD h
noncomputable def wp_ap_greedy (n : Nat) (x1 : Int32) (σ : wt_St) : Option (Nat × Int32 × wt_St) :=
  if x1 < 0 then
    wp_ap_greedy_B9 n x1 σ
  else
    if x1 ≤ (1 : Int32) then
      wp_ap_greedy_B14 n x1 (0 : Int32) σ
    else
      wp_ap_greedy_B9 n x1 σ
set_option maxRecDepth 100000 in
set_option maxHeartbeats 4000000 in
theorem wp_ap_greedy_ok {l : Launch} (htr : l.stackTraces = false) {w : wt_E} {n : Nat} {x1 : Int32} (hD : ∀ i, i < 108 → wt_dom w i) {σ : wt_St} {q : Nat × Int32 × wt_St} (h : wp_ap_greedy n x1 σ = some q) : wt_CtrX l w wt_y_ap_greedy prog_1_method_27_code 2 (some .int) 7 8 [.ref (wt_ad w 0), .int x1] σ q.1 (some q.2.1) q.2.2 := by
  refine wt_ctrX htr wt_pl_ap_greedy rfl (Nat.le_of_ble_eq_true rfl) [some (.ref (wt_ad w 0)), some (.int x1)] rfl ?_
  intro X hXl hXw hE hR
  subst hXl
  subst hXw
  have hE : wt_Ok X prog_1_method_27_code 2 "WornType" 7 8 := hE
  unfold wp_ap_greedy at h
  refine wt_iload_n hE wp_ap_greedy_d0 rfl ?_
  refine wt_if_lt hE 9 wp_ap_greedy_d1 rfl (fun c1 => ?_) (fun c1 => ?_)
  · have h := wt_ip c1 h
    exact wp_ap_greedy_B9_ok hE hR hD h
  · have h := wt_in c1 h
    refine wt_iload_n hE wp_ap_greedy_d4 rfl ?_
    refine wt_iconst hE (1 : Int32) wp_ap_greedy_d5 wt_ci_1 ?_
    refine wt_icmp_le hE 13 wp_ap_greedy_d6 rfl (fun c5 => ?_) (fun c5 => ?_)
    · have h := wt_ip c5 h
      refine wt_iconst hE (0 : Int32) wp_ap_greedy_d13 wt_ci_0 ?_
      exact wp_ap_greedy_B14_ok hE hR hD h
    · have h := wt_in c5 h
      exact wp_ap_greedy_B9_ok hE hR hD h
def wb42thm_prog_1_method_13_code_r1 : List (List Nat) := [27, 181, 0, 161, 28, 172] :: []
def wb42thm_prog_1_method_13_code_r0 : List (List Nat) := [27, 155, 0, 8, 27, 5, 161, 0, 7, 4, 167, 0, 4, 3, 184, 0, 112, 42, 180, 0, 46, 180, 0, 161, 61, 42, 180, 0, 46] :: wb42thm_prog_1_method_13_code_r1
set_option maxRecDepth 100000 in
theorem wb42thm_prog_1_method_13_code_c0 : wt_cs prog_1_method_13_code 0 wb42thm_prog_1_method_13_code_r0 := wt_cs_of (by decide +kernel)
theorem wb42thm_prog_1_method_13_code_c1 : wt_cs prog_1_method_13_code 29 wb42thm_prog_1_method_13_code_r1 := wt_cs_tl (m := 29) wb42thm_prog_1_method_13_code_c0 rfl rfl
theorem wp_ap_habit_d0 : decode prog_1_method_13_code 0 = .ok (.iload_n 1, 1) := wt_op27 wb42thm_prog_1_method_13_code_c0 0 rfl rfl
theorem wp_ap_habit_d1 : decode prog_1_method_13_code 1 = .ok (.ifCond .lt 8, 3) := wt_op155 wb42thm_prog_1_method_13_code_c0 1 rfl rfl rfl
theorem wp_ap_habit_d4 : decode prog_1_method_13_code 4 = .ok (.iload_n 1, 1) := wt_op27 wb42thm_prog_1_method_13_code_c0 4 rfl rfl
theorem wp_ap_habit_d5 : decode prog_1_method_13_code 5 = .ok (.iconst 2, 1) := wt_op5 wb42thm_prog_1_method_13_code_c0 5 rfl rfl
theorem wp_ap_habit_d6 : decode prog_1_method_13_code 6 = .ok (.if_icmp .lt 7, 3) := wt_op161 wb42thm_prog_1_method_13_code_c0 6 rfl rfl rfl
theorem wp_ap_habit_d9 : decode prog_1_method_13_code 9 = .ok (.iconst 1, 1) := wt_op4 wb42thm_prog_1_method_13_code_c0 9 rfl rfl
theorem wp_ap_habit_d10 : decode prog_1_method_13_code 10 = .ok (.goto 4, 3) := wt_op167 wb42thm_prog_1_method_13_code_c0 10 rfl rfl rfl
theorem wp_ap_habit_d13 : decode prog_1_method_13_code 13 = .ok (.iconst 0, 1) := wt_op3 wb42thm_prog_1_method_13_code_c0 13 rfl rfl
theorem wp_ap_habit_d14 : decode prog_1_method_13_code 14 = .ok (.invokestatic 112, 3) := wt_op184 wb42thm_prog_1_method_13_code_c0 14 rfl rfl rfl
theorem wp_ap_habit_d17 : decode prog_1_method_13_code 17 = .ok (.aload_n 0, 1) := wt_op42 wb42thm_prog_1_method_13_code_c0 17 rfl rfl
theorem wp_ap_habit_d18 : decode prog_1_method_13_code 18 = .ok (.getfield 46, 3) := wt_op180 wb42thm_prog_1_method_13_code_c0 18 rfl rfl rfl
theorem wp_ap_habit_d21 : decode prog_1_method_13_code 21 = .ok (.getfield 161, 3) := wt_op180 wb42thm_prog_1_method_13_code_c0 21 rfl rfl rfl
theorem wp_ap_habit_d24 : decode prog_1_method_13_code 24 = .ok (.istore_n 2, 1) := wt_op61 wb42thm_prog_1_method_13_code_c0 24 rfl rfl
theorem wp_ap_habit_d25 : decode prog_1_method_13_code 25 = .ok (.aload_n 0, 1) := wt_op42 wb42thm_prog_1_method_13_code_c0 25 rfl rfl
theorem wp_ap_habit_d26 : decode prog_1_method_13_code 26 = .ok (.getfield 46, 3) := wt_op180 wb42thm_prog_1_method_13_code_c0 26 rfl rfl rfl
theorem wp_ap_habit_d29 : decode prog_1_method_13_code 29 = .ok (.iload_n 1, 1) := wt_op27 wb42thm_prog_1_method_13_code_c1 0 rfl rfl
theorem wp_ap_habit_d30 : decode prog_1_method_13_code 30 = .ok (.putfield 161, 3) := wt_op181 wb42thm_prog_1_method_13_code_c1 1 rfl rfl rfl
theorem wp_ap_habit_d33 : decode prog_1_method_13_code 33 = .ok (.iload_n 2, 1) := wt_op28 wb42thm_prog_1_method_13_code_c1 4 rfl rfl
theorem wp_ap_habit_d34 : decode prog_1_method_13_code 34 = .ok (.ireturn, 1) := wt_op172 wb42thm_prog_1_method_13_code_c1 5 rfl rfl
noncomputable def wp_ap_habit_B14 (n : Nat) (x1 : Int32) (y0 : Int32) (σ : wt_St) : Option (Nat × Int32 × wt_St) :=
  (wp_ap_refuse n y0 σ).bind fun q2 =>
  if q2.1 = 0 then
  some (0, (wt_gf q2.2.2 39 9), (wt_sf q2.2.2 39 9 x1))
  else some (q2.1, 0, q2.2.2)
set_option maxRecDepth 100000 in
set_option maxHeartbeats 4000000 in
theorem wp_ap_habit_B14_ok  {x1 : Int32} {X : wt_X} {n : Nat} {res : Nat × Int32 × wt_St} (hE : wt_Ok X prog_1_method_13_code 3 "WornType" 7 8) (hR : wt_RtX X (some .int) 8 res.1 (some res.2.1) res.2.2) (hD : ∀ i, i < 108 → wt_dom (wt_xw X) i)  {σ : wt_St} {y0 : Int32} (h : wp_ap_habit_B14 n x1 y0 σ = some res) : wt_V X 0 σ 14 [some (.ref (wt_ad (wt_xw X) 0)), some (.int x1), none] [.int y0] := by
  unfold wp_ap_habit_B14 at h
  obtain ⟨q2, hq2, h⟩ := wt_bi h
  refine wt_callSXv (mc := 8) (rt0 := (some .int)) hE [.int y0] wt_ld_ap_112 wt_ya_ap_refuse (wp_ap_refuse_ok hR.2.2.2 hq2) (by omega) rfl rfl (Nat.le_of_ble_eq_true rfl) (by decide) (by decide) wp_ap_habit_d14 (fun he => ?_) (fun he => ?_)
  · have h := wt_in he h
    cases h
    exact ⟨_, hR⟩
  have h := wt_ip he h
  refine wt_aload_n hE wp_ap_habit_d17 rfl ?_
  refine wt_getr hE (r := 39) wt_lf_ap_46 (hD 0 (Nat.le_of_ble_eq_true rfl)) wt_L0 rfl wp_ap_habit_d18 ?_
  refine wt_geti hE wt_lf_ap_161 (hD 39 (Nat.le_of_ble_eq_true rfl)) wt_L39 rfl wp_ap_habit_d21 ?_
  refine wt_istore_n hE [some (.ref (wt_ad (wt_xw X) 0)), some (.int x1), some (.int (wt_gf q2.2.2 39 9))] wp_ap_habit_d24 (by decide) rfl ?_
  refine wt_aload_n hE wp_ap_habit_d25 rfl ?_
  refine wt_getr hE (r := 39) wt_lf_ap_46 (hD 0 (Nat.le_of_ble_eq_true rfl)) wt_L0 rfl wp_ap_habit_d26 ?_
  refine wt_iload_n hE wp_ap_habit_d29 rfl ?_
  refine wt_puti hE wt_lf_ap_161 (hD 39 (Nat.le_of_ble_eq_true rfl)) wt_L39 rfl (fun q hq => by cases hq; rfl) wp_ap_habit_d30 ?_
  refine wt_iload_n hE wp_ap_habit_d33 rfl ?_
  cases h
  exact wt_iretX hE hR (by decide) wp_ap_habit_d34
noncomputable def wp_ap_habit_B9 (n : Nat) (x1 : Int32) (σ : wt_St) : Option (Nat × Int32 × wt_St) :=
  wp_ap_habit_B14 n x1 (1 : Int32) σ
set_option maxRecDepth 100000 in
set_option maxHeartbeats 4000000 in
theorem wp_ap_habit_B9_ok  {x1 : Int32} {X : wt_X} {n : Nat} {res : Nat × Int32 × wt_St} (hE : wt_Ok X prog_1_method_13_code 3 "WornType" 7 8) (hR : wt_RtX X (some .int) 8 res.1 (some res.2.1) res.2.2) (hD : ∀ i, i < 108 → wt_dom (wt_xw X) i)  {σ : wt_St} (h : wp_ap_habit_B9 n x1 σ = some res) : wt_V X 0 σ 9 [some (.ref (wt_ad (wt_xw X) 0)), some (.int x1), none] [] := by
  unfold wp_ap_habit_B9 at h
  refine wt_iconst hE (1 : Int32) wp_ap_habit_d9 wt_ci_1 ?_
  refine wt_goto hE 14 wp_ap_habit_d10 rfl ?_
  exact wp_ap_habit_B14_ok hE hR hD h
noncomputable def wp_ap_habit (n : Nat) (x1 : Int32) (σ : wt_St) : Option (Nat × Int32 × wt_St) :=
  if x1 < 0 then
    wp_ap_habit_B9 n x1 σ
  else
    if x1 < (2 : Int32) then
      wp_ap_habit_B14 n x1 (0 : Int32) σ
    else
      wp_ap_habit_B9 n x1 σ
set_option maxRecDepth 100000 in
set_option maxHeartbeats 4000000 in
theorem wp_ap_habit_ok {l : Launch} (htr : l.stackTraces = false) {w : wt_E} {n : Nat} {x1 : Int32} (hD : ∀ i, i < 108 → wt_dom w i) {σ : wt_St} {q : Nat × Int32 × wt_St} (h : wp_ap_habit n x1 σ = some q) : wt_CtrX l w wt_y_ap_habit prog_1_method_13_code 3 (some .int) 7 8 [.ref (wt_ad w 0), .int x1] σ q.1 (some q.2.1) q.2.2 := by
  refine wt_ctrX htr wt_pl_ap_habit rfl (Nat.le_of_ble_eq_true rfl) [some (.ref (wt_ad w 0)), some (.int x1), none] rfl ?_
  intro X hXl hXw hE hR
  subst hXl
  subst hXw
  have hE : wt_Ok X prog_1_method_13_code 3 "WornType" 7 8 := hE
  unfold wp_ap_habit at h
  refine wt_iload_n hE wp_ap_habit_d0 rfl ?_
  refine wt_if_lt hE 9 wp_ap_habit_d1 rfl (fun c1 => ?_) (fun c1 => ?_)
  · have h := wt_ip c1 h
    exact wp_ap_habit_B9_ok hE hR hD h
  · have h := wt_in c1 h
    refine wt_iload_n hE wp_ap_habit_d4 rfl ?_
    refine wt_iconst hE (2 : Int32) wp_ap_habit_d5 wt_ci_2 ?_
    refine wt_icmp_lt hE 13 wp_ap_habit_d6 rfl (fun c3 => ?_) (fun c3 => ?_)
    · have h := wt_ip c3 h
      refine wt_iconst hE (0 : Int32) wp_ap_habit_d13 wt_ci_0 ?_
      exact wp_ap_habit_B14_ok hE hR hD h
    · have h := wt_in c3 h
      exact wp_ap_habit_B9_ok hE hR hD h
def wb42thm_prog_1_method_3_code_r3 : List (List Nat) := [180, 0, 59, 182, 0, 133, 172] :: []
def wb42thm_prog_1_method_3_code_r2 : List (List Nat) := [42, 180, 0, 19, 42, 180, 0, 23, 182, 0, 126, 42, 180, 0, 46, 42, 180, 0, 19, 182, 0, 130, 42, 3, 181, 0, 101, 42] :: wb42thm_prog_1_method_3_code_r3
def wb42thm_prog_1_method_3_code_r1 : List (List Nat) := [182, 0, 116, 42, 180, 0, 23, 42, 180, 0, 12, 182, 0, 119, 154, 0, 14, 42, 180, 0, 12, 180, 0, 123, 16, 10, 100, 172] :: wb42thm_prog_1_method_3_code_r2
def wb42thm_prog_1_method_3_code_r0 : List (List Nat) := [27, 155, 0, 14, 27, 42, 180, 0, 12, 180, 0, 105, 164, 0, 7, 4, 167, 0, 4, 3, 184, 0, 112, 42, 180, 0, 12, 27] :: wb42thm_prog_1_method_3_code_r1
set_option maxRecDepth 100000 in
theorem wb42thm_prog_1_method_3_code_c0 : wt_cs prog_1_method_3_code 0 wb42thm_prog_1_method_3_code_r0 := wt_cs_of (by decide +kernel)
theorem wb42thm_prog_1_method_3_code_c1 : wt_cs prog_1_method_3_code 28 wb42thm_prog_1_method_3_code_r1 := wt_cs_tl (m := 28) wb42thm_prog_1_method_3_code_c0 rfl rfl
theorem wb42thm_prog_1_method_3_code_c2 : wt_cs prog_1_method_3_code 56 wb42thm_prog_1_method_3_code_r2 := wt_cs_tl (m := 28) wb42thm_prog_1_method_3_code_c1 rfl rfl
theorem wb42thm_prog_1_method_3_code_c3 : wt_cs prog_1_method_3_code 84 wb42thm_prog_1_method_3_code_r3 := wt_cs_tl (m := 28) wb42thm_prog_1_method_3_code_c2 rfl rfl
theorem wp_ap_kase_d0 : decode prog_1_method_3_code 0 = .ok (.iload_n 1, 1) := wt_op27 wb42thm_prog_1_method_3_code_c0 0 rfl rfl
theorem wp_ap_kase_d1 : decode prog_1_method_3_code 1 = .ok (.ifCond .lt 14, 3) := wt_op155 wb42thm_prog_1_method_3_code_c0 1 rfl rfl rfl
theorem wp_ap_kase_d4 : decode prog_1_method_3_code 4 = .ok (.iload_n 1, 1) := wt_op27 wb42thm_prog_1_method_3_code_c0 4 rfl rfl
theorem wp_ap_kase_d5 : decode prog_1_method_3_code 5 = .ok (.aload_n 0, 1) := wt_op42 wb42thm_prog_1_method_3_code_c0 5 rfl rfl
theorem wp_ap_kase_d6 : decode prog_1_method_3_code 6 = .ok (.getfield 12, 3) := wt_op180 wb42thm_prog_1_method_3_code_c0 6 rfl rfl rfl
theorem wp_ap_kase_d9 : decode prog_1_method_3_code 9 = .ok (.getfield 105, 3) := wt_op180 wb42thm_prog_1_method_3_code_c0 9 rfl rfl rfl
theorem wp_ap_kase_d12 : decode prog_1_method_3_code 12 = .ok (.if_icmp .le 7, 3) := wt_op164 wb42thm_prog_1_method_3_code_c0 12 rfl rfl rfl
theorem wp_ap_kase_d15 : decode prog_1_method_3_code 15 = .ok (.iconst 1, 1) := wt_op4 wb42thm_prog_1_method_3_code_c0 15 rfl rfl
theorem wp_ap_kase_d16 : decode prog_1_method_3_code 16 = .ok (.goto 4, 3) := wt_op167 wb42thm_prog_1_method_3_code_c0 16 rfl rfl rfl
theorem wp_ap_kase_d19 : decode prog_1_method_3_code 19 = .ok (.iconst 0, 1) := wt_op3 wb42thm_prog_1_method_3_code_c0 19 rfl rfl
theorem wp_ap_kase_d20 : decode prog_1_method_3_code 20 = .ok (.invokestatic 112, 3) := wt_op184 wb42thm_prog_1_method_3_code_c0 20 rfl rfl rfl
theorem wp_ap_kase_d23 : decode prog_1_method_3_code 23 = .ok (.aload_n 0, 1) := wt_op42 wb42thm_prog_1_method_3_code_c0 23 rfl rfl
theorem wp_ap_kase_d24 : decode prog_1_method_3_code 24 = .ok (.getfield 12, 3) := wt_op180 wb42thm_prog_1_method_3_code_c0 24 rfl rfl rfl
theorem wp_ap_kase_d27 : decode prog_1_method_3_code 27 = .ok (.iload_n 1, 1) := wt_op27 wb42thm_prog_1_method_3_code_c0 27 rfl rfl
theorem wp_ap_kase_d28 : decode prog_1_method_3_code 28 = .ok (.invokevirtual 116, 3) := wt_op182 wb42thm_prog_1_method_3_code_c1 0 rfl rfl rfl
theorem wp_ap_kase_d31 : decode prog_1_method_3_code 31 = .ok (.aload_n 0, 1) := wt_op42 wb42thm_prog_1_method_3_code_c1 3 rfl rfl
theorem wp_ap_kase_d32 : decode prog_1_method_3_code 32 = .ok (.getfield 23, 3) := wt_op180 wb42thm_prog_1_method_3_code_c1 4 rfl rfl rfl
theorem wp_ap_kase_d35 : decode prog_1_method_3_code 35 = .ok (.aload_n 0, 1) := wt_op42 wb42thm_prog_1_method_3_code_c1 7 rfl rfl
theorem wp_ap_kase_d36 : decode prog_1_method_3_code 36 = .ok (.getfield 12, 3) := wt_op180 wb42thm_prog_1_method_3_code_c1 8 rfl rfl rfl
theorem wp_ap_kase_d39 : decode prog_1_method_3_code 39 = .ok (.invokevirtual 119, 3) := wt_op182 wb42thm_prog_1_method_3_code_c1 11 rfl rfl rfl
theorem wp_ap_kase_d42 : decode prog_1_method_3_code 42 = .ok (.ifCond .ne 14, 3) := wt_op154 wb42thm_prog_1_method_3_code_c1 14 rfl rfl rfl
theorem wp_ap_kase_d45 : decode prog_1_method_3_code 45 = .ok (.aload_n 0, 1) := wt_op42 wb42thm_prog_1_method_3_code_c1 17 rfl rfl
theorem wp_ap_kase_d46 : decode prog_1_method_3_code 46 = .ok (.getfield 12, 3) := wt_op180 wb42thm_prog_1_method_3_code_c1 18 rfl rfl rfl
theorem wp_ap_kase_d49 : decode prog_1_method_3_code 49 = .ok (.getfield 123, 3) := wt_op180 wb42thm_prog_1_method_3_code_c1 21 rfl rfl rfl
theorem wp_ap_kase_d52 : decode prog_1_method_3_code 52 = .ok (.bipush 10, 2) := wt_op16 wb42thm_prog_1_method_3_code_c1 24 rfl rfl rfl
theorem wp_ap_kase_d54 : decode prog_1_method_3_code 54 = .ok (.isub, 1) := wt_op100 wb42thm_prog_1_method_3_code_c1 26 rfl rfl
theorem wp_ap_kase_d55 : decode prog_1_method_3_code 55 = .ok (.ireturn, 1) := wt_op172 wb42thm_prog_1_method_3_code_c1 27 rfl rfl
theorem wp_ap_kase_d56 : decode prog_1_method_3_code 56 = .ok (.aload_n 0, 1) := wt_op42 wb42thm_prog_1_method_3_code_c2 0 rfl rfl
theorem wp_ap_kase_d57 : decode prog_1_method_3_code 57 = .ok (.getfield 19, 3) := wt_op180 wb42thm_prog_1_method_3_code_c2 1 rfl rfl rfl
theorem wp_ap_kase_d60 : decode prog_1_method_3_code 60 = .ok (.aload_n 0, 1) := wt_op42 wb42thm_prog_1_method_3_code_c2 4 rfl rfl
theorem wp_ap_kase_d61 : decode prog_1_method_3_code 61 = .ok (.getfield 23, 3) := wt_op180 wb42thm_prog_1_method_3_code_c2 5 rfl rfl rfl
theorem wp_ap_kase_d64 : decode prog_1_method_3_code 64 = .ok (.invokevirtual 126, 3) := wt_op182 wb42thm_prog_1_method_3_code_c2 8 rfl rfl rfl
theorem wp_ap_kase_d67 : decode prog_1_method_3_code 67 = .ok (.aload_n 0, 1) := wt_op42 wb42thm_prog_1_method_3_code_c2 11 rfl rfl
theorem wp_ap_kase_d68 : decode prog_1_method_3_code 68 = .ok (.getfield 46, 3) := wt_op180 wb42thm_prog_1_method_3_code_c2 12 rfl rfl rfl
theorem wp_ap_kase_d71 : decode prog_1_method_3_code 71 = .ok (.aload_n 0, 1) := wt_op42 wb42thm_prog_1_method_3_code_c2 15 rfl rfl
theorem wp_ap_kase_d72 : decode prog_1_method_3_code 72 = .ok (.getfield 19, 3) := wt_op180 wb42thm_prog_1_method_3_code_c2 16 rfl rfl rfl
theorem wp_ap_kase_d75 : decode prog_1_method_3_code 75 = .ok (.invokevirtual 130, 3) := wt_op182 wb42thm_prog_1_method_3_code_c2 19 rfl rfl rfl
theorem wp_ap_kase_d78 : decode prog_1_method_3_code 78 = .ok (.aload_n 0, 1) := wt_op42 wb42thm_prog_1_method_3_code_c2 22 rfl rfl
theorem wp_ap_kase_d79 : decode prog_1_method_3_code 79 = .ok (.iconst 0, 1) := wt_op3 wb42thm_prog_1_method_3_code_c2 23 rfl rfl
theorem wp_ap_kase_d80 : decode prog_1_method_3_code 80 = .ok (.putfield 101, 3) := wt_op181 wb42thm_prog_1_method_3_code_c2 24 rfl rfl rfl
theorem wp_ap_kase_d83 : decode prog_1_method_3_code 83 = .ok (.aload_n 0, 1) := wt_op42 wb42thm_prog_1_method_3_code_c2 27 rfl rfl
theorem wp_ap_kase_d84 : decode prog_1_method_3_code 84 = .ok (.getfield 59, 3) := wt_op180 wb42thm_prog_1_method_3_code_c3 0 rfl rfl rfl
theorem wp_ap_kase_d87 : decode prog_1_method_3_code 87 = .ok (.invokevirtual 133, 3) := wt_op182 wb42thm_prog_1_method_3_code_c3 3 rfl rfl rfl
theorem wp_ap_kase_d90 : decode prog_1_method_3_code 90 = .ok (.ireturn, 1) := wt_op172 wb42thm_prog_1_method_3_code_c3 6 rfl rfl
noncomputable def wp_ap_kase_B20 (n : Nat) (x1 : Int32) (y0 : Int32) (σ : wt_St) : Option (Nat × Int32 × wt_St) :=
  (wp_ap_refuse n y0 σ).bind fun q2 =>
  if q2.1 = 0 then
  (wp_tp_begin n x1 q2.2.2).bind fun q3 =>
  (wp_ld_fill n 12 q3).bind fun q4 =>
  if q4.1 = 0 then
    some (0, ((wt_gf q4.2 1 6) - (10 : Int32)), q4.2)
  else
    (wp_ld_become n 4 12 q4.2).bind fun q6 =>
    (wp_st_lay n 39 4 q6).bind fun q7 =>
    (wp_sk_piecesOfAll n (wt_sf q7 0 14 (0 : Int32))).bind fun q8 =>
    some (0, q8.1, q8.2)
  else some (q2.1, 0, q2.2.2)
set_option maxRecDepth 100000 in
set_option maxHeartbeats 4000000 in
theorem wp_ap_kase_B20_ok  {x1 : Int32} {X : wt_X} {n : Nat} {res : Nat × Int32 × wt_St} (hE : wt_Ok X prog_1_method_3_code 2 "WornType" 8 8) (hR : wt_RtX X (some .int) 8 res.1 (some res.2.1) res.2.2) (hD : ∀ i, i < 108 → wt_dom (wt_xw X) i)  {σ : wt_St} {y0 : Int32} (h : wp_ap_kase_B20 n x1 y0 σ = some res) : wt_V X 0 σ 20 [some (.ref (wt_ad (wt_xw X) 0)), some (.int x1)] [.int y0] := by
  unfold wp_ap_kase_B20 at h
  obtain ⟨q2, hq2, h⟩ := wt_bi h
  refine wt_callSXv (mc := 8) (rt0 := (some .int)) hE [.int y0] wt_ld_ap_112 wt_ya_ap_refuse (wp_ap_refuse_ok hR.2.2.2 hq2) (by omega) rfl rfl (Nat.le_of_ble_eq_true rfl) (by decide) (by decide) wp_ap_kase_d20 (fun he => ?_) (fun he => ?_)
  · have h := wt_in he h
    cases h
    exact ⟨_, hR⟩
  have h := wt_ip he h
  refine wt_aload_n hE wp_ap_kase_d23 rfl ?_
  refine wt_getr hE (r := 1) wt_lf_ap_12 (hD 0 (Nat.le_of_ble_eq_true rfl)) wt_L0 rfl wp_ap_kase_d24 ?_
  refine wt_iload_n hE wp_ap_kase_d27 rfl ?_
  obtain ⟨q3, hq3, h⟩ := wt_bi h
  refine wt_callVv hE [.int x1] wt_lm_ap_116 wt_ya_tp_begin (wp_tp_begin_ok hD hq3) (by omega) (hD 1 (Nat.le_of_ble_eq_true rfl)) wt_L1 rfl rfl rfl (Nat.le_of_ble_eq_true rfl) (by decide) wp_ap_kase_d28 ?_
  refine wt_aload_n hE wp_ap_kase_d31 rfl ?_
  refine wt_getr hE (r := 12) wt_lf_ap_23 (hD 0 (Nat.le_of_ble_eq_true rfl)) wt_L0 rfl wp_ap_kase_d32 ?_
  refine wt_aload_n hE wp_ap_kase_d35 rfl ?_
  refine wt_getr hE (r := 1) wt_lf_ap_12 (hD 0 (Nat.le_of_ble_eq_true rfl)) wt_L0 rfl wp_ap_kase_d36 ?_
  obtain ⟨q4, hq4, h⟩ := wt_bi h
  refine wt_callVi hE [.ref (wt_ad (wt_xw X) 1)] wt_lm_ap_119 wt_ya_ld_fill (wp_ld_fill_ok hD wt_isLead_12 (fun j hj => hD (12 + j) (by omega)) hq4) (by omega) (hD 12 (Nat.le_of_ble_eq_true rfl)) wt_L12 rfl rfl rfl (Nat.le_of_ble_eq_true rfl) (by decide) wp_ap_kase_d39 (fun hbq4 => ?_)
  refine wt_if_ne hE 56 wp_ap_kase_d42 rfl (fun c5 => ?_) (fun c5 => ?_)
  · have h := wt_in c5 h
    refine wt_aload_n hE wp_ap_kase_d56 rfl ?_
    refine wt_getr hE (r := 4) wt_lf_ap_19 (hD 0 (Nat.le_of_ble_eq_true rfl)) wt_L0 rfl wp_ap_kase_d57 ?_
    refine wt_aload_n hE wp_ap_kase_d60 rfl ?_
    refine wt_getr hE (r := 12) wt_lf_ap_23 (hD 0 (Nat.le_of_ble_eq_true rfl)) wt_L0 rfl wp_ap_kase_d61 ?_
    obtain ⟨q6, hq6, h⟩ := wt_bi h
    refine wt_callVv hE [.ref (wt_ad (wt_xw X) 12)] wt_lm_ap_126 wt_ya_ld_become (wp_ld_become_ok wt_isLead_4 (fun j hj => hD (4 + j) (by omega)) wt_isLead_12 (fun j hj => hD (12 + j) (by omega)) hq6) (by omega) (hD 4 (Nat.le_of_ble_eq_true rfl)) wt_L4 rfl rfl rfl (Nat.le_of_ble_eq_true rfl) (by decide) wp_ap_kase_d64 ?_
    refine wt_aload_n hE wp_ap_kase_d67 rfl ?_
    refine wt_getr hE (r := 39) wt_lf_ap_46 (hD 0 (Nat.le_of_ble_eq_true rfl)) wt_L0 rfl wp_ap_kase_d68 ?_
    refine wt_aload_n hE wp_ap_kase_d71 rfl ?_
    refine wt_getr hE (r := 4) wt_lf_ap_19 (hD 0 (Nat.le_of_ble_eq_true rfl)) wt_L0 rfl wp_ap_kase_d72 ?_
    obtain ⟨q7, hq7, h⟩ := wt_bi h
    refine wt_callVv hE [.ref (wt_ad (wt_xw X) 4)] wt_lm_ap_130 wt_ya_st_lay (wp_st_lay_ok wt_isState_39 (fun j hj => hD (39 + j) (by omega)) wt_isLead_4 (fun j hj => hD (4 + j) (by omega)) hq7) (by omega) (hD 39 (Nat.le_of_ble_eq_true rfl)) wt_L39 rfl rfl rfl (Nat.le_of_ble_eq_true rfl) (by decide) wp_ap_kase_d75 ?_
    refine wt_aload_n hE wp_ap_kase_d78 rfl ?_
    refine wt_iconst hE (0 : Int32) wp_ap_kase_d79 wt_ci_0 ?_
    refine wt_puti hE wt_lf_ap_101 (hD 0 (Nat.le_of_ble_eq_true rfl)) wt_L0 rfl (fun q hq => by cases hq; rfl) wp_ap_kase_d80 ?_
    refine wt_aload_n hE wp_ap_kase_d83 rfl ?_
    refine wt_getr hE (r := 76) wt_lf_ap_59 (hD 0 (Nat.le_of_ble_eq_true rfl)) wt_L0 rfl wp_ap_kase_d84 ?_
    obtain ⟨q8, hq8, h⟩ := wt_bi h
    refine wt_callVi hE [] wt_lm_ap_133 wt_ya_sk_piecesOfAll (wp_sk_piecesOfAll_ok hD hq8) (by omega) (hD 76 (Nat.le_of_ble_eq_true rfl)) wt_L76 rfl rfl rfl (Nat.le_of_ble_eq_true rfl) (by decide) wp_ap_kase_d87 (fun hbq8 => ?_)
    cases h
    exact wt_iretX hE hR (by decide) wp_ap_kase_d90
  · have h := wt_ip c5 h
    refine wt_aload_n hE wp_ap_kase_d45 rfl ?_
    refine wt_getr hE (r := 1) wt_lf_ap_12 (hD 0 (Nat.le_of_ble_eq_true rfl)) wt_L0 rfl wp_ap_kase_d46 ?_
    refine wt_geti hE wt_lf_ap_123 (hD 1 (Nat.le_of_ble_eq_true rfl)) wt_L1 rfl wp_ap_kase_d49 ?_
    refine wt_bipush hE (10 : Int32) wp_ap_kase_d52 wt_cb_10 ?_
    refine wt_isub hE wp_ap_kase_d54 ?_
    cases h
    exact wt_iretX hE hR (by decide) wp_ap_kase_d55
noncomputable def wp_ap_kase_B15 (n : Nat) (x1 : Int32) (σ : wt_St) : Option (Nat × Int32 × wt_St) :=
  wp_ap_kase_B20 n x1 (1 : Int32) σ
set_option maxRecDepth 100000 in
set_option maxHeartbeats 4000000 in
theorem wp_ap_kase_B15_ok  {x1 : Int32} {X : wt_X} {n : Nat} {res : Nat × Int32 × wt_St} (hE : wt_Ok X prog_1_method_3_code 2 "WornType" 8 8) (hR : wt_RtX X (some .int) 8 res.1 (some res.2.1) res.2.2) (hD : ∀ i, i < 108 → wt_dom (wt_xw X) i)  {σ : wt_St} (h : wp_ap_kase_B15 n x1 σ = some res) : wt_V X 0 σ 15 [some (.ref (wt_ad (wt_xw X) 0)), some (.int x1)] [] := by
  unfold wp_ap_kase_B15 at h
  refine wt_iconst hE (1 : Int32) wp_ap_kase_d15 wt_ci_1 ?_
  refine wt_goto hE 20 wp_ap_kase_d16 rfl ?_
  exact wp_ap_kase_B20_ok hE hR hD h
noncomputable def wp_ap_kase (n : Nat) (x1 : Int32) (σ : wt_St) : Option (Nat × Int32 × wt_St) :=
  if x1 < 0 then
    wp_ap_kase_B15 n x1 σ
  else
    if x1 ≤ (wt_gf σ 1 2) then
      wp_ap_kase_B20 n x1 (0 : Int32) σ
    else
      wp_ap_kase_B15 n x1 σ
set_option maxRecDepth 100000 in
set_option maxHeartbeats 4000000 in
theorem wp_ap_kase_ok {l : Launch} (htr : l.stackTraces = false) {w : wt_E} {n : Nat} {x1 : Int32} (hD : ∀ i, i < 108 → wt_dom w i) {σ : wt_St} {q : Nat × Int32 × wt_St} (h : wp_ap_kase n x1 σ = some q) : wt_CtrX l w wt_y_ap_kase prog_1_method_3_code 2 (some .int) 8 8 [.ref (wt_ad w 0), .int x1] σ q.1 (some q.2.1) q.2.2 := by
  refine wt_ctrX htr wt_pl_ap_kase rfl (Nat.le_of_ble_eq_true rfl) [some (.ref (wt_ad w 0)), some (.int x1)] rfl ?_
  intro X hXl hXw hE hR
  subst hXl
  subst hXw
  have hE : wt_Ok X prog_1_method_3_code 2 "WornType" 8 8 := hE
  unfold wp_ap_kase at h
  refine wt_iload_n hE wp_ap_kase_d0 rfl ?_
  refine wt_if_lt hE 15 wp_ap_kase_d1 rfl (fun c1 => ?_) (fun c1 => ?_)
  · have h := wt_ip c1 h
    exact wp_ap_kase_B15_ok hE hR hD h
  · have h := wt_in c1 h
    refine wt_iload_n hE wp_ap_kase_d4 rfl ?_
    refine wt_aload_n hE wp_ap_kase_d5 rfl ?_
    refine wt_getr hE (r := 1) wt_lf_ap_12 (hD 0 (Nat.le_of_ble_eq_true rfl)) wt_L0 rfl wp_ap_kase_d6 ?_
    refine wt_geti hE wt_lf_ap_105 (hD 1 (Nat.le_of_ble_eq_true rfl)) wt_L1 rfl wp_ap_kase_d9 ?_
    refine wt_icmp_le hE 19 wp_ap_kase_d12 rfl (fun c9 => ?_) (fun c9 => ?_)
    · have h := wt_ip c9 h
      refine wt_iconst hE (0 : Int32) wp_ap_kase_d19 wt_ci_0 ?_
      exact wp_ap_kase_B20_ok hE hR hD h
    · have h := wt_in c9 h
      exact wp_ap_kase_B15_ok hE hR hD h
def wb42thm_prog_1_method_15_code_r1 : List (List Nat) := [42, 180, 0, 97, 182, 0, 252, 42, 180, 0, 59, 42, 180, 0, 97, 28, 42, 180, 0, 46, 180, 0, 210, 182, 1, 0, 172] :: []
def wb42thm_prog_1_method_15_code_r0 : List (List Nat) := [42, 180, 0, 39, 27, 182, 0, 244, 154, 0, 7, 4, 167, 0, 4, 3, 184, 0, 219, 28, 184, 0, 253, 42, 180, 0, 39, 27] :: wb42thm_prog_1_method_15_code_r1
set_option maxRecDepth 100000 in
theorem wb42thm_prog_1_method_15_code_c0 : wt_cs prog_1_method_15_code 0 wb42thm_prog_1_method_15_code_r0 := wt_cs_of (by decide +kernel)
theorem wb42thm_prog_1_method_15_code_c1 : wt_cs prog_1_method_15_code 28 wb42thm_prog_1_method_15_code_r1 := wt_cs_tl (m := 28) wb42thm_prog_1_method_15_code_c0 rfl rfl
theorem wp_ap_lacks_d0 : decode prog_1_method_15_code 0 = .ok (.aload_n 0, 1) := wt_op42 wb42thm_prog_1_method_15_code_c0 0 rfl rfl
theorem wp_ap_lacks_d1 : decode prog_1_method_15_code 1 = .ok (.getfield 39, 3) := wt_op180 wb42thm_prog_1_method_15_code_c0 1 rfl rfl rfl
theorem wp_ap_lacks_d4 : decode prog_1_method_15_code 4 = .ok (.iload_n 1, 1) := wt_op27 wb42thm_prog_1_method_15_code_c0 4 rfl rfl
theorem wp_ap_lacks_d5 : decode prog_1_method_15_code 5 = .ok (.invokevirtual 244, 3) := wt_op182 wb42thm_prog_1_method_15_code_c0 5 rfl rfl rfl
theorem wp_ap_lacks_d8 : decode prog_1_method_15_code 8 = .ok (.ifCond .ne 7, 3) := wt_op154 wb42thm_prog_1_method_15_code_c0 8 rfl rfl rfl
theorem wp_ap_lacks_d11 : decode prog_1_method_15_code 11 = .ok (.iconst 1, 1) := wt_op4 wb42thm_prog_1_method_15_code_c0 11 rfl rfl
theorem wp_ap_lacks_d12 : decode prog_1_method_15_code 12 = .ok (.goto 4, 3) := wt_op167 wb42thm_prog_1_method_15_code_c0 12 rfl rfl rfl
theorem wp_ap_lacks_d15 : decode prog_1_method_15_code 15 = .ok (.iconst 0, 1) := wt_op3 wb42thm_prog_1_method_15_code_c0 15 rfl rfl
theorem wp_ap_lacks_d16 : decode prog_1_method_15_code 16 = .ok (.invokestatic 219, 3) := wt_op184 wb42thm_prog_1_method_15_code_c0 16 rfl rfl rfl
theorem wp_ap_lacks_d19 : decode prog_1_method_15_code 19 = .ok (.iload_n 2, 1) := wt_op28 wb42thm_prog_1_method_15_code_c0 19 rfl rfl
theorem wp_ap_lacks_d20 : decode prog_1_method_15_code 20 = .ok (.invokestatic 253, 3) := wt_op184 wb42thm_prog_1_method_15_code_c0 20 rfl rfl rfl
theorem wp_ap_lacks_d23 : decode prog_1_method_15_code 23 = .ok (.aload_n 0, 1) := wt_op42 wb42thm_prog_1_method_15_code_c0 23 rfl rfl
theorem wp_ap_lacks_d24 : decode prog_1_method_15_code 24 = .ok (.getfield 39, 3) := wt_op180 wb42thm_prog_1_method_15_code_c0 24 rfl rfl rfl
theorem wp_ap_lacks_d27 : decode prog_1_method_15_code 27 = .ok (.iload_n 1, 1) := wt_op27 wb42thm_prog_1_method_15_code_c0 27 rfl rfl
theorem wp_ap_lacks_d28 : decode prog_1_method_15_code 28 = .ok (.aload_n 0, 1) := wt_op42 wb42thm_prog_1_method_15_code_c1 0 rfl rfl
theorem wp_ap_lacks_d29 : decode prog_1_method_15_code 29 = .ok (.getfield 97, 3) := wt_op180 wb42thm_prog_1_method_15_code_c1 1 rfl rfl rfl
theorem wp_ap_lacks_d32 : decode prog_1_method_15_code 32 = .ok (.invokevirtual 252, 3) := wt_op182 wb42thm_prog_1_method_15_code_c1 4 rfl rfl rfl
theorem wp_ap_lacks_d35 : decode prog_1_method_15_code 35 = .ok (.aload_n 0, 1) := wt_op42 wb42thm_prog_1_method_15_code_c1 7 rfl rfl
theorem wp_ap_lacks_d36 : decode prog_1_method_15_code 36 = .ok (.getfield 59, 3) := wt_op180 wb42thm_prog_1_method_15_code_c1 8 rfl rfl rfl
theorem wp_ap_lacks_d39 : decode prog_1_method_15_code 39 = .ok (.aload_n 0, 1) := wt_op42 wb42thm_prog_1_method_15_code_c1 11 rfl rfl
theorem wp_ap_lacks_d40 : decode prog_1_method_15_code 40 = .ok (.getfield 97, 3) := wt_op180 wb42thm_prog_1_method_15_code_c1 12 rfl rfl rfl
theorem wp_ap_lacks_d43 : decode prog_1_method_15_code 43 = .ok (.iload_n 2, 1) := wt_op28 wb42thm_prog_1_method_15_code_c1 15 rfl rfl
theorem wp_ap_lacks_d44 : decode prog_1_method_15_code 44 = .ok (.aload_n 0, 1) := wt_op42 wb42thm_prog_1_method_15_code_c1 16 rfl rfl
theorem wp_ap_lacks_d45 : decode prog_1_method_15_code 45 = .ok (.getfield 46, 3) := wt_op180 wb42thm_prog_1_method_15_code_c1 17 rfl rfl rfl
theorem wp_ap_lacks_d48 : decode prog_1_method_15_code 48 = .ok (.getfield 210, 3) := wt_op180 wb42thm_prog_1_method_15_code_c1 20 rfl rfl rfl
theorem wp_ap_lacks_d51 : decode prog_1_method_15_code 51 = .ok (.invokevirtual 256, 3) := wt_op182 wb42thm_prog_1_method_15_code_c1 23 rfl rfl rfl
theorem wp_ap_lacks_d54 : decode prog_1_method_15_code 54 = .ok (.ireturn, 1) := wt_op172 wb42thm_prog_1_method_15_code_c1 26 rfl rfl
noncomputable def wp_ap_lacks_B16 (n : Nat) (x1 : Int32) (x2 : Int32) (y0 : Int32) (σ : wt_St) : Option (Nat × Int32 × wt_St) :=
  (wp_ap_miss n y0 σ).bind fun q3 =>
  if q3.1 = 0 then
  (wp_ap_refuseCopies n x2 q3.2.2).bind fun q4 =>
  if q4.1 = 0 then
  (wp_tx_spell n 107 x1 q4.2.2).bind fun q5 =>
  (wp_sk_lacking n 107 40 x2 q5).bind fun q6 =>
  some (0, q6.1, q6.2)
  else some (q4.1, 0, q4.2.2)
  else some (q3.1, 0, q3.2.2)
set_option maxRecDepth 100000 in
set_option maxHeartbeats 4000000 in
theorem wp_ap_lacks_B16_ok  {x1 : Int32} {x2 : Int32} {X : wt_X} {n : Nat} {res : Nat × Int32 × wt_St} (hE : wt_Ok X prog_1_method_15_code 3 "WornType" 8 8) (hR : wt_RtX X (some .int) 8 res.1 (some res.2.1) res.2.2) (hD : ∀ i, i < 108 → wt_dom (wt_xw X) i)  {σ : wt_St} {y0 : Int32} (h : wp_ap_lacks_B16 n x1 x2 y0 σ = some res) : wt_V X 0 σ 16 [some (.ref (wt_ad (wt_xw X) 0)), some (.int x1), some (.int x2)] [.int y0] := by
  unfold wp_ap_lacks_B16 at h
  obtain ⟨q3, hq3, h⟩ := wt_bi h
  refine wt_callSXv (mc := 8) (rt0 := (some .int)) hE [.int y0] wt_ld_ap_219 wt_ya_ap_miss (wp_ap_miss_ok hR.2.2.2 hq3) (by omega) rfl rfl (Nat.le_of_ble_eq_true rfl) (by decide) (by decide) wp_ap_lacks_d16 (fun he => ?_) (fun he => ?_)
  · have h := wt_in he h
    cases h
    exact ⟨_, hR⟩
  have h := wt_ip he h
  refine wt_iload_n hE wp_ap_lacks_d19 rfl ?_
  obtain ⟨q4, hq4, h⟩ := wt_bi h
  refine wt_callSXv (mc := 8) (rt0 := (some .int)) hE [.int x2] wt_ld_ap_253 wt_ya_ap_refuseCopies (wp_ap_refuseCopies_ok hR.2.2.2 hq4) (by omega) rfl rfl (Nat.le_of_ble_eq_true rfl) (by decide) (by decide) wp_ap_lacks_d20 (fun he => ?_) (fun he => ?_)
  · have h := wt_in he h
    cases h
    exact ⟨_, hR⟩
  have h := wt_ip he h
  refine wt_aload_n hE wp_ap_lacks_d23 rfl ?_
  refine wt_getr hE (r := 34) wt_lf_ap_39 (hD 0 (Nat.le_of_ble_eq_true rfl)) wt_L0 rfl wp_ap_lacks_d24 ?_
  refine wt_iload_n hE wp_ap_lacks_d27 rfl ?_
  refine wt_aload_n hE wp_ap_lacks_d28 rfl ?_
  refine wt_getr hE (r := 107) wt_lf_ap_97 (hD 0 (Nat.le_of_ble_eq_true rfl)) wt_L0 rfl wp_ap_lacks_d29 ?_
  obtain ⟨q5, hq5, h⟩ := wt_bi h
  refine wt_callVv hE [.int x1, .ref (wt_ad (wt_xw X) 107)] wt_lm_ap_252 wt_ya_tx_spell (wp_tx_spell_ok hD (wt_lnE wt_L107) (hD 107 (Nat.le_of_ble_eq_true rfl)) hq5) (by omega) (hD 34 (Nat.le_of_ble_eq_true rfl)) wt_L34 rfl rfl rfl (Nat.le_of_ble_eq_true rfl) (by decide) wp_ap_lacks_d32 ?_
  refine wt_aload_n hE wp_ap_lacks_d35 rfl ?_
  refine wt_getr hE (r := 76) wt_lf_ap_59 (hD 0 (Nat.le_of_ble_eq_true rfl)) wt_L0 rfl wp_ap_lacks_d36 ?_
  refine wt_aload_n hE wp_ap_lacks_d39 rfl ?_
  refine wt_getr hE (r := 107) wt_lf_ap_97 (hD 0 (Nat.le_of_ble_eq_true rfl)) wt_L0 rfl wp_ap_lacks_d40 ?_
  refine wt_iload_n hE wp_ap_lacks_d43 rfl ?_
  refine wt_aload_n hE wp_ap_lacks_d44 rfl ?_
  refine wt_getr hE (r := 39) wt_lf_ap_46 (hD 0 (Nat.le_of_ble_eq_true rfl)) wt_L0 rfl wp_ap_lacks_d45 ?_
  refine wt_getr hE (r := 40) wt_lf_ap_210 (hD 39 (Nat.le_of_ble_eq_true rfl)) wt_L39 rfl wp_ap_lacks_d48 ?_
  obtain ⟨q6, hq6, h⟩ := wt_bi h
  refine wt_callVi hE [.ref (wt_ad (wt_xw X) 107), .int x2, .ref (wt_ad (wt_xw X) 40)] wt_lm_ap_256 wt_ya_sk_lacking (wp_sk_lacking_ok hD (wt_lnE wt_L107) (hD 107 (Nat.le_of_ble_eq_true rfl)) (wt_lnE wt_L40) (hD 40 (Nat.le_of_ble_eq_true rfl)) hq6) (by omega) (hD 76 (Nat.le_of_ble_eq_true rfl)) wt_L76 rfl rfl rfl (Nat.le_of_ble_eq_true rfl) (by decide) wp_ap_lacks_d51 (fun hbq6 => ?_)
  cases h
  exact wt_iretX hE hR (by decide) wp_ap_lacks_d54
noncomputable def wp_ap_lacks (n : Nat) (x1 : Int32) (x2 : Int32) (σ : wt_St) : Option (Nat × Int32 × wt_St) :=
  (wp_tx_has n x1 σ).bind fun q1 =>
  if q1.1 = 0 then
    wp_ap_lacks_B16 n x1 x2 (1 : Int32) q1.2
  else
    wp_ap_lacks_B16 n x1 x2 (0 : Int32) q1.2
set_option maxRecDepth 100000 in
set_option maxHeartbeats 4000000 in
theorem wp_ap_lacks_ok {l : Launch} (htr : l.stackTraces = false) {w : wt_E} {n : Nat} {x1 : Int32} {x2 : Int32} (hD : ∀ i, i < 108 → wt_dom w i) {σ : wt_St} {q : Nat × Int32 × wt_St} (h : wp_ap_lacks n x1 x2 σ = some q) : wt_CtrX l w wt_y_ap_lacks prog_1_method_15_code 3 (some .int) 8 8 [.ref (wt_ad w 0), .int x1, .int x2] σ q.1 (some q.2.1) q.2.2 := by
  refine wt_ctrX htr wt_pl_ap_lacks rfl (Nat.le_of_ble_eq_true rfl) [some (.ref (wt_ad w 0)), some (.int x1), some (.int x2)] rfl ?_
  intro X hXl hXw hE hR
  subst hXl
  subst hXw
  have hE : wt_Ok X prog_1_method_15_code 3 "WornType" 8 8 := hE
  unfold wp_ap_lacks at h
  refine wt_aload_n hE wp_ap_lacks_d0 rfl ?_
  refine wt_getr hE (r := 34) wt_lf_ap_39 (hD 0 (Nat.le_of_ble_eq_true rfl)) wt_L0 rfl wp_ap_lacks_d1 ?_
  refine wt_iload_n hE wp_ap_lacks_d4 rfl ?_
  obtain ⟨q1, hq1, h⟩ := wt_bi h
  refine wt_callVi hE [.int x1] wt_lm_ap_244 wt_ya_tx_has (wp_tx_has_ok hD hq1) (by omega) (hD 34 (Nat.le_of_ble_eq_true rfl)) wt_L34 rfl rfl rfl (Nat.le_of_ble_eq_true rfl) (by decide) wp_ap_lacks_d5 (fun hbq1 => ?_)
  refine wt_if_ne hE 15 wp_ap_lacks_d8 rfl (fun c2 => ?_) (fun c2 => ?_)
  · have h := wt_in c2 h
    refine wt_iconst hE (0 : Int32) wp_ap_lacks_d15 wt_ci_0 ?_
    exact wp_ap_lacks_B16_ok hE hR hD h
  · have h := wt_ip c2 h
    refine wt_iconst hE (1 : Int32) wp_ap_lacks_d11 wt_ci_1 ?_
    refine wt_goto hE 16 wp_ap_lacks_d12 rfl ?_
    exact wp_ap_lacks_B16_ok hE hR hD h
def wb42thm_prog_1_method_21_code_r1 : List (List Nat) := [4, 167, 0, 4, 3, 184, 0, 112, 42, 180, 0, 75, 27, 182, 1, 36, 42, 180, 0, 75, 27, 28, 29, 182, 1, 39, 172] :: []
def wb42thm_prog_1_method_21_code_r0 : List (List Nat) := [42, 180, 0, 39, 27, 182, 0, 244, 154, 0, 7, 4, 167, 0, 4, 3, 184, 0, 219, 29, 155, 0, 8, 29, 4, 164, 0, 7] :: wb42thm_prog_1_method_21_code_r1
set_option maxRecDepth 100000 in
theorem wb42thm_prog_1_method_21_code_c0 : wt_cs prog_1_method_21_code 0 wb42thm_prog_1_method_21_code_r0 := wt_cs_of (by decide +kernel)
theorem wb42thm_prog_1_method_21_code_c1 : wt_cs prog_1_method_21_code 28 wb42thm_prog_1_method_21_code_r1 := wt_cs_tl (m := 28) wb42thm_prog_1_method_21_code_c0 rfl rfl
theorem wp_ap_least_d0 : decode prog_1_method_21_code 0 = .ok (.aload_n 0, 1) := wt_op42 wb42thm_prog_1_method_21_code_c0 0 rfl rfl
theorem wp_ap_least_d1 : decode prog_1_method_21_code 1 = .ok (.getfield 39, 3) := wt_op180 wb42thm_prog_1_method_21_code_c0 1 rfl rfl rfl
theorem wp_ap_least_d4 : decode prog_1_method_21_code 4 = .ok (.iload_n 1, 1) := wt_op27 wb42thm_prog_1_method_21_code_c0 4 rfl rfl
theorem wp_ap_least_d5 : decode prog_1_method_21_code 5 = .ok (.invokevirtual 244, 3) := wt_op182 wb42thm_prog_1_method_21_code_c0 5 rfl rfl rfl
theorem wp_ap_least_d8 : decode prog_1_method_21_code 8 = .ok (.ifCond .ne 7, 3) := wt_op154 wb42thm_prog_1_method_21_code_c0 8 rfl rfl rfl
theorem wp_ap_least_d11 : decode prog_1_method_21_code 11 = .ok (.iconst 1, 1) := wt_op4 wb42thm_prog_1_method_21_code_c0 11 rfl rfl
theorem wp_ap_least_d12 : decode prog_1_method_21_code 12 = .ok (.goto 4, 3) := wt_op167 wb42thm_prog_1_method_21_code_c0 12 rfl rfl rfl
theorem wp_ap_least_d15 : decode prog_1_method_21_code 15 = .ok (.iconst 0, 1) := wt_op3 wb42thm_prog_1_method_21_code_c0 15 rfl rfl
theorem wp_ap_least_d16 : decode prog_1_method_21_code 16 = .ok (.invokestatic 219, 3) := wt_op184 wb42thm_prog_1_method_21_code_c0 16 rfl rfl rfl
theorem wp_ap_least_d19 : decode prog_1_method_21_code 19 = .ok (.iload_n 3, 1) := wt_op29 wb42thm_prog_1_method_21_code_c0 19 rfl rfl
theorem wp_ap_least_d20 : decode prog_1_method_21_code 20 = .ok (.ifCond .lt 8, 3) := wt_op155 wb42thm_prog_1_method_21_code_c0 20 rfl rfl rfl
theorem wp_ap_least_d23 : decode prog_1_method_21_code 23 = .ok (.iload_n 3, 1) := wt_op29 wb42thm_prog_1_method_21_code_c0 23 rfl rfl
theorem wp_ap_least_d24 : decode prog_1_method_21_code 24 = .ok (.iconst 1, 1) := wt_op4 wb42thm_prog_1_method_21_code_c0 24 rfl rfl
theorem wp_ap_least_d25 : decode prog_1_method_21_code 25 = .ok (.if_icmp .le 7, 3) := wt_op164 wb42thm_prog_1_method_21_code_c0 25 rfl rfl rfl
theorem wp_ap_least_d28 : decode prog_1_method_21_code 28 = .ok (.iconst 1, 1) := wt_op4 wb42thm_prog_1_method_21_code_c1 0 rfl rfl
theorem wp_ap_least_d29 : decode prog_1_method_21_code 29 = .ok (.goto 4, 3) := wt_op167 wb42thm_prog_1_method_21_code_c1 1 rfl rfl rfl
theorem wp_ap_least_d32 : decode prog_1_method_21_code 32 = .ok (.iconst 0, 1) := wt_op3 wb42thm_prog_1_method_21_code_c1 4 rfl rfl
theorem wp_ap_least_d33 : decode prog_1_method_21_code 33 = .ok (.invokestatic 112, 3) := wt_op184 wb42thm_prog_1_method_21_code_c1 5 rfl rfl rfl
theorem wp_ap_least_d36 : decode prog_1_method_21_code 36 = .ok (.aload_n 0, 1) := wt_op42 wb42thm_prog_1_method_21_code_c1 8 rfl rfl
theorem wp_ap_least_d37 : decode prog_1_method_21_code 37 = .ok (.getfield 75, 3) := wt_op180 wb42thm_prog_1_method_21_code_c1 9 rfl rfl rfl
theorem wp_ap_least_d40 : decode prog_1_method_21_code 40 = .ok (.iload_n 1, 1) := wt_op27 wb42thm_prog_1_method_21_code_c1 12 rfl rfl
theorem wp_ap_least_d41 : decode prog_1_method_21_code 41 = .ok (.invokevirtual 292, 3) := wt_op182 wb42thm_prog_1_method_21_code_c1 13 rfl rfl rfl
theorem wp_ap_least_d44 : decode prog_1_method_21_code 44 = .ok (.aload_n 0, 1) := wt_op42 wb42thm_prog_1_method_21_code_c1 16 rfl rfl
theorem wp_ap_least_d45 : decode prog_1_method_21_code 45 = .ok (.getfield 75, 3) := wt_op180 wb42thm_prog_1_method_21_code_c1 17 rfl rfl rfl
theorem wp_ap_least_d48 : decode prog_1_method_21_code 48 = .ok (.iload_n 1, 1) := wt_op27 wb42thm_prog_1_method_21_code_c1 20 rfl rfl
theorem wp_ap_least_d49 : decode prog_1_method_21_code 49 = .ok (.iload_n 2, 1) := wt_op28 wb42thm_prog_1_method_21_code_c1 21 rfl rfl
theorem wp_ap_least_d50 : decode prog_1_method_21_code 50 = .ok (.iload_n 3, 1) := wt_op29 wb42thm_prog_1_method_21_code_c1 22 rfl rfl
theorem wp_ap_least_d51 : decode prog_1_method_21_code 51 = .ok (.invokevirtual 295, 3) := wt_op182 wb42thm_prog_1_method_21_code_c1 23 rfl rfl rfl
theorem wp_ap_least_d54 : decode prog_1_method_21_code 54 = .ok (.ireturn, 1) := wt_op172 wb42thm_prog_1_method_21_code_c1 26 rfl rfl
noncomputable def wp_ap_least_B33 (n : Nat) (x1 : Int32) (x2 : Int32) (x3 : Int32) (y0 : Int32) (σ : wt_St) : Option (Nat × Int32 × wt_St) :=
  (wp_ap_refuse n y0 σ).bind fun q5 =>
  if q5.1 = 0 then
  (wp_rw_findLeast n x1 q5.2.2).bind fun q6 =>
  (wp_rw_found n x1 x2 x3 q6).bind fun q7 =>
  some (0, q7.1, q7.2)
  else some (q5.1, 0, q5.2.2)
set_option maxRecDepth 100000 in
set_option maxHeartbeats 4000000 in
theorem wp_ap_least_B33_ok  {x1 : Int32} {x2 : Int32} {x3 : Int32} {X : wt_X} {n : Nat} {res : Nat × Int32 × wt_St} (hE : wt_Ok X prog_1_method_21_code 4 "WornType" 7 8) (hR : wt_RtX X (some .int) 8 res.1 (some res.2.1) res.2.2) (hD : ∀ i, i < 108 → wt_dom (wt_xw X) i)  {σ : wt_St} {y0 : Int32} (h : wp_ap_least_B33 n x1 x2 x3 y0 σ = some res) : wt_V X 1 σ 33 [some (.ref (wt_ad (wt_xw X) 0)), some (.int x1), some (.int x2), some (.int x3)] [.int y0] := by
  unfold wp_ap_least_B33 at h
  obtain ⟨q5, hq5, h⟩ := wt_bi h
  refine wt_callSXv (mc := 8) (rt0 := (some .int)) hE [.int y0] wt_ld_ap_112 wt_ya_ap_refuse (wp_ap_refuse_ok hR.2.2.2 hq5) (by omega) rfl rfl (Nat.le_of_ble_eq_true rfl) (by decide) (by decide) wp_ap_least_d33 (fun he => ?_) (fun he => ?_)
  · have h := wt_in he h
    cases h
    exact ⟨_, hR⟩
  have h := wt_ip he h
  refine wt_aload_n hE wp_ap_least_d36 rfl ?_
  refine wt_getr hE (r := 81) wt_lf_ap_75 (hD 0 (Nat.le_of_ble_eq_true rfl)) wt_L0 rfl wp_ap_least_d37 ?_
  refine wt_iload_n hE wp_ap_least_d40 rfl ?_
  obtain ⟨q6, hq6, h⟩ := wt_bi h
  refine wt_callVv hE [.int x1] wt_lm_ap_292 wt_ya_rw_findLeast (wp_rw_findLeast_ok hD hq6) (by omega) (hD 81 (Nat.le_of_ble_eq_true rfl)) wt_L81 rfl rfl rfl (Nat.le_of_ble_eq_true rfl) (by decide) wp_ap_least_d41 ?_
  refine wt_aload_n hE wp_ap_least_d44 rfl ?_
  refine wt_getr hE (r := 81) wt_lf_ap_75 (hD 0 (Nat.le_of_ble_eq_true rfl)) wt_L0 rfl wp_ap_least_d45 ?_
  refine wt_iload_n hE wp_ap_least_d48 rfl ?_
  refine wt_iload_n hE wp_ap_least_d49 rfl ?_
  refine wt_iload_n hE wp_ap_least_d50 rfl ?_
  obtain ⟨q7, hq7, h⟩ := wt_bi h
  refine wt_callVi hE [.int x1, .int x2, .int x3] wt_lm_ap_295 wt_ya_rw_found (wp_rw_found_ok hD hq7) (by omega) (hD 81 (Nat.le_of_ble_eq_true rfl)) wt_L81 rfl rfl rfl (Nat.le_of_ble_eq_true rfl) (by decide) wp_ap_least_d51 (fun hbq7 => ?_)
  cases h
  exact wt_iretX hE hR (by decide) wp_ap_least_d54
noncomputable def wp_ap_least_B28 (n : Nat) (x1 : Int32) (x2 : Int32) (x3 : Int32) (σ : wt_St) : Option (Nat × Int32 × wt_St) :=
  wp_ap_least_B33 n x1 x2 x3 (1 : Int32) σ
set_option maxRecDepth 100000 in
set_option maxHeartbeats 4000000 in
theorem wp_ap_least_B28_ok  {x1 : Int32} {x2 : Int32} {x3 : Int32} {X : wt_X} {n : Nat} {res : Nat × Int32 × wt_St} (hE : wt_Ok X prog_1_method_21_code 4 "WornType" 7 8) (hR : wt_RtX X (some .int) 8 res.1 (some res.2.1) res.2.2) (hD : ∀ i, i < 108 → wt_dom (wt_xw X) i)  {σ : wt_St} (h : wp_ap_least_B28 n x1 x2 x3 σ = some res) : wt_V X 1 σ 28 [some (.ref (wt_ad (wt_xw X) 0)), some (.int x1), some (.int x2), some (.int x3)] [] := by
  unfold wp_ap_least_B28 at h
  refine wt_iconst hE (1 : Int32) wp_ap_least_d28 wt_ci_1 ?_
  refine wt_goto hE 33 wp_ap_least_d29 rfl ?_
  exact wp_ap_least_B33_ok hE hR hD h
noncomputable def wp_ap_least_B16 (n : Nat) (x1 : Int32) (x2 : Int32) (x3 : Int32) (y0 : Int32) (σ : wt_St) : Option (Nat × Int32 × wt_St) :=
  (wp_ap_miss n y0 σ).bind fun q3 =>
  if q3.1 = 0 then
  if x3 < 0 then
    wp_ap_least_B28 n x1 x2 x3 q3.2.2
  else
    if x3 ≤ (1 : Int32) then
      wp_ap_least_B33 n x1 x2 x3 (0 : Int32) q3.2.2
    else
      wp_ap_least_B28 n x1 x2 x3 q3.2.2
  else some (q3.1, 0, q3.2.2)
set_option maxRecDepth 100000 in
set_option maxHeartbeats 4000000 in
theorem wp_ap_least_B16_ok  {x1 : Int32} {x2 : Int32} {x3 : Int32} {X : wt_X} {n : Nat} {res : Nat × Int32 × wt_St} (hE : wt_Ok X prog_1_method_21_code 4 "WornType" 7 8) (hR : wt_RtX X (some .int) 8 res.1 (some res.2.1) res.2.2) (hD : ∀ i, i < 108 → wt_dom (wt_xw X) i)  {σ : wt_St} {y0 : Int32} (h : wp_ap_least_B16 n x1 x2 x3 y0 σ = some res) : wt_V X 0 σ 16 [some (.ref (wt_ad (wt_xw X) 0)), some (.int x1), some (.int x2), some (.int x3)] [.int y0] := by
  unfold wp_ap_least_B16 at h
  obtain ⟨q3, hq3, h⟩ := wt_bi h
  refine wt_callSXv (mc := 8) (rt0 := (some .int)) hE [.int y0] wt_ld_ap_219 wt_ya_ap_miss (wp_ap_miss_ok hR.2.2.2 hq3) (by omega) rfl rfl (Nat.le_of_ble_eq_true rfl) (by decide) (by decide) wp_ap_least_d16 (fun he => ?_) (fun he => ?_)
  · have h := wt_in he h
    cases h
    exact ⟨_, hR⟩
  have h := wt_ip he h
  refine wt_iload_n hE wp_ap_least_d19 rfl ?_
  refine wt_if_lt hE 28 wp_ap_least_d20 rfl (fun c4 => ?_) (fun c4 => ?_)
  · have h := wt_ip c4 h
    exact wp_ap_least_B28_ok hE hR hD h
  · have h := wt_in c4 h
    refine wt_iload_n hE wp_ap_least_d23 rfl ?_
    refine wt_iconst hE (1 : Int32) wp_ap_least_d24 wt_ci_1 ?_
    refine wt_icmp_le hE 32 wp_ap_least_d25 rfl (fun c8 => ?_) (fun c8 => ?_)
    · have h := wt_ip c8 h
      refine wt_iconst hE (0 : Int32) wp_ap_least_d32 wt_ci_0 ?_
      exact wp_ap_least_B33_ok hE hR hD h
    · have h := wt_in c8 h
      exact wp_ap_least_B28_ok hE hR hD h
noncomputable def wp_ap_least (n : Nat) (x1 : Int32) (x2 : Int32) (x3 : Int32) (σ : wt_St) : Option (Nat × Int32 × wt_St) :=
  (wp_tx_has n x1 σ).bind fun q1 =>
  if q1.1 = 0 then
    wp_ap_least_B16 n x1 x2 x3 (1 : Int32) q1.2
  else
    wp_ap_least_B16 n x1 x2 x3 (0 : Int32) q1.2
set_option maxRecDepth 100000 in
set_option maxHeartbeats 4000000 in
theorem wp_ap_least_ok {l : Launch} (htr : l.stackTraces = false) {w : wt_E} {n : Nat} {x1 : Int32} {x2 : Int32} {x3 : Int32} (hD : ∀ i, i < 108 → wt_dom w i) {σ : wt_St} {q : Nat × Int32 × wt_St} (h : wp_ap_least n x1 x2 x3 σ = some q) : wt_CtrX l w wt_y_ap_least prog_1_method_21_code 4 (some .int) 7 8 [.ref (wt_ad w 0), .int x1, .int x2, .int x3] σ q.1 (some q.2.1) q.2.2 := by
  refine wt_ctrX htr wt_pl_ap_least rfl (Nat.le_of_ble_eq_true rfl) [some (.ref (wt_ad w 0)), some (.int x1), some (.int x2), some (.int x3)] rfl ?_
  intro X hXl hXw hE hR
  subst hXl
  subst hXw
  have hE : wt_Ok X prog_1_method_21_code 4 "WornType" 7 8 := hE
  unfold wp_ap_least at h
  refine wt_aload_n hE wp_ap_least_d0 rfl ?_
  refine wt_getr hE (r := 34) wt_lf_ap_39 (hD 0 (Nat.le_of_ble_eq_true rfl)) wt_L0 rfl wp_ap_least_d1 ?_
  refine wt_iload_n hE wp_ap_least_d4 rfl ?_
  obtain ⟨q1, hq1, h⟩ := wt_bi h
  refine wt_callVi hE [.int x1] wt_lm_ap_244 wt_ya_tx_has (wp_tx_has_ok hD hq1) (by omega) (hD 34 (Nat.le_of_ble_eq_true rfl)) wt_L34 rfl rfl rfl (Nat.le_of_ble_eq_true rfl) (by decide) wp_ap_least_d5 (fun hbq1 => ?_)
  refine wt_if_ne hE 15 wp_ap_least_d8 rfl (fun c2 => ?_) (fun c2 => ?_)
  · have h := wt_in c2 h
    refine wt_iconst hE (0 : Int32) wp_ap_least_d15 wt_ci_0 ?_
    exact wp_ap_least_B16_ok hE hR hD h
  · have h := wt_ip c2 h
    refine wt_iconst hE (1 : Int32) wp_ap_least_d11 wt_ci_1 ?_
    refine wt_goto hE 16 wp_ap_least_d12 rfl ?_
    exact wp_ap_least_B16_ok hE hR hD h
def wb42thm_prog_1_method_8_code_r4 : List (List Nat) := [89, 18, 203, 183, 0, 171, 191] :: []
def wb42thm_prog_1_method_8_code_r3 : List (List Nat) := [172, 42, 180, 0, 19, 180, 0, 197, 27, 184, 0, 193, 172, 42, 180, 0, 19, 180, 0, 200, 27, 184, 0, 193, 172, 187, 0, 167] :: wb42thm_prog_1_method_8_code_r4
def wb42thm_prog_1_method_8_code_r2 : List (List Nat) := [180, 0, 59, 27, 182, 0, 184, 172, 42, 180, 0, 59, 27, 182, 0, 187, 172, 42, 180, 0, 19, 180, 0, 190, 27, 184, 0, 193] :: wb42thm_prog_1_method_8_code_r3
def wb42thm_prog_1_method_8_code_r1 : List (List Nat) := [42, 180, 0, 59, 27, 182, 0, 174, 172, 42, 180, 0, 59, 27, 182, 0, 178, 172, 42, 180, 0, 59, 27, 182, 0, 181, 172, 42] :: wb42thm_prog_1_method_8_code_r2
def wb42thm_prog_1_method_8_code_r0 : List (List Nat) := [27, 155, 0, 9, 27, 16, 26, 161, 0, 7, 4, 167, 0, 4, 3, 184, 0, 112, 28, 170, 0, 0, 0, 126, 0, 0, 0, 0, 0, 0, 0, 7, 0, 0, 0, 45, 0, 0, 0, 54, 0, 0, 0, 63, 0, 0, 0, 72, 0, 0, 0, 81, 0, 0, 0, 90, 0, 0, 0, 102, 0, 0, 0, 114] :: wb42thm_prog_1_method_8_code_r1
set_option maxRecDepth 100000 in
theorem wb42thm_prog_1_method_8_code_c0 : wt_cs prog_1_method_8_code 0 wb42thm_prog_1_method_8_code_r0 := wt_cs_of (by decide +kernel)
theorem wb42thm_prog_1_method_8_code_c1 : wt_cs prog_1_method_8_code 64 wb42thm_prog_1_method_8_code_r1 := wt_cs_tl (m := 64) wb42thm_prog_1_method_8_code_c0 rfl rfl
theorem wb42thm_prog_1_method_8_code_c2 : wt_cs prog_1_method_8_code 92 wb42thm_prog_1_method_8_code_r2 := wt_cs_tl (m := 28) wb42thm_prog_1_method_8_code_c1 rfl rfl
theorem wb42thm_prog_1_method_8_code_c3 : wt_cs prog_1_method_8_code 120 wb42thm_prog_1_method_8_code_r3 := wt_cs_tl (m := 28) wb42thm_prog_1_method_8_code_c2 rfl rfl
theorem wb42thm_prog_1_method_8_code_c4 : wt_cs prog_1_method_8_code 148 wb42thm_prog_1_method_8_code_r4 := wt_cs_tl (m := 28) wb42thm_prog_1_method_8_code_c3 rfl rfl
theorem wp_ap_letter_d0 : decode prog_1_method_8_code 0 = .ok (.iload_n 1, 1) := wt_op27 wb42thm_prog_1_method_8_code_c0 0 rfl rfl
theorem wp_ap_letter_d1 : decode prog_1_method_8_code 1 = .ok (.ifCond .lt 9, 3) := wt_op155 wb42thm_prog_1_method_8_code_c0 1 rfl rfl rfl
theorem wp_ap_letter_d4 : decode prog_1_method_8_code 4 = .ok (.iload_n 1, 1) := wt_op27 wb42thm_prog_1_method_8_code_c0 4 rfl rfl
theorem wp_ap_letter_d5 : decode prog_1_method_8_code 5 = .ok (.bipush 26, 2) := wt_op16 wb42thm_prog_1_method_8_code_c0 5 rfl rfl rfl
theorem wp_ap_letter_d7 : decode prog_1_method_8_code 7 = .ok (.if_icmp .lt 7, 3) := wt_op161 wb42thm_prog_1_method_8_code_c0 7 rfl rfl rfl
theorem wp_ap_letter_d10 : decode prog_1_method_8_code 10 = .ok (.iconst 1, 1) := wt_op4 wb42thm_prog_1_method_8_code_c0 10 rfl rfl
theorem wp_ap_letter_d11 : decode prog_1_method_8_code 11 = .ok (.goto 4, 3) := wt_op167 wb42thm_prog_1_method_8_code_c0 11 rfl rfl rfl
theorem wp_ap_letter_d14 : decode prog_1_method_8_code 14 = .ok (.iconst 0, 1) := wt_op3 wb42thm_prog_1_method_8_code_c0 14 rfl rfl
theorem wp_ap_letter_d15 : decode prog_1_method_8_code 15 = .ok (.invokestatic 112, 3) := wt_op184 wb42thm_prog_1_method_8_code_c0 15 rfl rfl rfl
theorem wp_ap_letter_d18 : decode prog_1_method_8_code 18 = .ok (.iload_n 2, 1) := wt_op28 wb42thm_prog_1_method_8_code_c0 18 rfl rfl
theorem wp_ap_letter_d19 : decode prog_1_method_8_code 19 = .ok (.tableswitch 126 0 7 #[45, 54, 63, 72, 81, 90, 102, 114], 45) := by decide +kernel
theorem wp_ap_letter_d64 : decode prog_1_method_8_code 64 = .ok (.aload_n 0, 1) := wt_op42 wb42thm_prog_1_method_8_code_c1 0 rfl rfl
theorem wp_ap_letter_d65 : decode prog_1_method_8_code 65 = .ok (.getfield 59, 3) := wt_op180 wb42thm_prog_1_method_8_code_c1 1 rfl rfl rfl
theorem wp_ap_letter_d68 : decode prog_1_method_8_code 68 = .ok (.iload_n 1, 1) := wt_op27 wb42thm_prog_1_method_8_code_c1 4 rfl rfl
theorem wp_ap_letter_d69 : decode prog_1_method_8_code 69 = .ok (.invokevirtual 174, 3) := wt_op182 wb42thm_prog_1_method_8_code_c1 5 rfl rfl rfl
theorem wp_ap_letter_d72 : decode prog_1_method_8_code 72 = .ok (.ireturn, 1) := wt_op172 wb42thm_prog_1_method_8_code_c1 8 rfl rfl
theorem wp_ap_letter_d73 : decode prog_1_method_8_code 73 = .ok (.aload_n 0, 1) := wt_op42 wb42thm_prog_1_method_8_code_c1 9 rfl rfl
theorem wp_ap_letter_d74 : decode prog_1_method_8_code 74 = .ok (.getfield 59, 3) := wt_op180 wb42thm_prog_1_method_8_code_c1 10 rfl rfl rfl
theorem wp_ap_letter_d77 : decode prog_1_method_8_code 77 = .ok (.iload_n 1, 1) := wt_op27 wb42thm_prog_1_method_8_code_c1 13 rfl rfl
theorem wp_ap_letter_d78 : decode prog_1_method_8_code 78 = .ok (.invokevirtual 178, 3) := wt_op182 wb42thm_prog_1_method_8_code_c1 14 rfl rfl rfl
theorem wp_ap_letter_d81 : decode prog_1_method_8_code 81 = .ok (.ireturn, 1) := wt_op172 wb42thm_prog_1_method_8_code_c1 17 rfl rfl
theorem wp_ap_letter_d82 : decode prog_1_method_8_code 82 = .ok (.aload_n 0, 1) := wt_op42 wb42thm_prog_1_method_8_code_c1 18 rfl rfl
theorem wp_ap_letter_d83 : decode prog_1_method_8_code 83 = .ok (.getfield 59, 3) := wt_op180 wb42thm_prog_1_method_8_code_c1 19 rfl rfl rfl
theorem wp_ap_letter_d86 : decode prog_1_method_8_code 86 = .ok (.iload_n 1, 1) := wt_op27 wb42thm_prog_1_method_8_code_c1 22 rfl rfl
theorem wp_ap_letter_d87 : decode prog_1_method_8_code 87 = .ok (.invokevirtual 181, 3) := wt_op182 wb42thm_prog_1_method_8_code_c1 23 rfl rfl rfl
theorem wp_ap_letter_d90 : decode prog_1_method_8_code 90 = .ok (.ireturn, 1) := wt_op172 wb42thm_prog_1_method_8_code_c1 26 rfl rfl
theorem wp_ap_letter_d91 : decode prog_1_method_8_code 91 = .ok (.aload_n 0, 1) := wt_op42 wb42thm_prog_1_method_8_code_c1 27 rfl rfl
theorem wp_ap_letter_d92 : decode prog_1_method_8_code 92 = .ok (.getfield 59, 3) := wt_op180 wb42thm_prog_1_method_8_code_c2 0 rfl rfl rfl
theorem wp_ap_letter_d95 : decode prog_1_method_8_code 95 = .ok (.iload_n 1, 1) := wt_op27 wb42thm_prog_1_method_8_code_c2 3 rfl rfl
theorem wp_ap_letter_d96 : decode prog_1_method_8_code 96 = .ok (.invokevirtual 184, 3) := wt_op182 wb42thm_prog_1_method_8_code_c2 4 rfl rfl rfl
theorem wp_ap_letter_d99 : decode prog_1_method_8_code 99 = .ok (.ireturn, 1) := wt_op172 wb42thm_prog_1_method_8_code_c2 7 rfl rfl
theorem wp_ap_letter_d100 : decode prog_1_method_8_code 100 = .ok (.aload_n 0, 1) := wt_op42 wb42thm_prog_1_method_8_code_c2 8 rfl rfl
theorem wp_ap_letter_d101 : decode prog_1_method_8_code 101 = .ok (.getfield 59, 3) := wt_op180 wb42thm_prog_1_method_8_code_c2 9 rfl rfl rfl
theorem wp_ap_letter_d104 : decode prog_1_method_8_code 104 = .ok (.iload_n 1, 1) := wt_op27 wb42thm_prog_1_method_8_code_c2 12 rfl rfl
theorem wp_ap_letter_d105 : decode prog_1_method_8_code 105 = .ok (.invokevirtual 187, 3) := wt_op182 wb42thm_prog_1_method_8_code_c2 13 rfl rfl rfl
theorem wp_ap_letter_d108 : decode prog_1_method_8_code 108 = .ok (.ireturn, 1) := wt_op172 wb42thm_prog_1_method_8_code_c2 16 rfl rfl
theorem wp_ap_letter_d109 : decode prog_1_method_8_code 109 = .ok (.aload_n 0, 1) := wt_op42 wb42thm_prog_1_method_8_code_c2 17 rfl rfl
theorem wp_ap_letter_d110 : decode prog_1_method_8_code 110 = .ok (.getfield 19, 3) := wt_op180 wb42thm_prog_1_method_8_code_c2 18 rfl rfl rfl
theorem wp_ap_letter_d113 : decode prog_1_method_8_code 113 = .ok (.getfield 190, 3) := wt_op180 wb42thm_prog_1_method_8_code_c2 21 rfl rfl rfl
theorem wp_ap_letter_d116 : decode prog_1_method_8_code 116 = .ok (.iload_n 1, 1) := wt_op27 wb42thm_prog_1_method_8_code_c2 24 rfl rfl
theorem wp_ap_letter_d117 : decode prog_1_method_8_code 117 = .ok (.invokestatic 193, 3) := wt_op184 wb42thm_prog_1_method_8_code_c2 25 rfl rfl rfl
theorem wp_ap_letter_d120 : decode prog_1_method_8_code 120 = .ok (.ireturn, 1) := wt_op172 wb42thm_prog_1_method_8_code_c3 0 rfl rfl
theorem wp_ap_letter_d121 : decode prog_1_method_8_code 121 = .ok (.aload_n 0, 1) := wt_op42 wb42thm_prog_1_method_8_code_c3 1 rfl rfl
theorem wp_ap_letter_d122 : decode prog_1_method_8_code 122 = .ok (.getfield 19, 3) := wt_op180 wb42thm_prog_1_method_8_code_c3 2 rfl rfl rfl
theorem wp_ap_letter_d125 : decode prog_1_method_8_code 125 = .ok (.getfield 197, 3) := wt_op180 wb42thm_prog_1_method_8_code_c3 5 rfl rfl rfl
theorem wp_ap_letter_d128 : decode prog_1_method_8_code 128 = .ok (.iload_n 1, 1) := wt_op27 wb42thm_prog_1_method_8_code_c3 8 rfl rfl
theorem wp_ap_letter_d129 : decode prog_1_method_8_code 129 = .ok (.invokestatic 193, 3) := wt_op184 wb42thm_prog_1_method_8_code_c3 9 rfl rfl rfl
theorem wp_ap_letter_d132 : decode prog_1_method_8_code 132 = .ok (.ireturn, 1) := wt_op172 wb42thm_prog_1_method_8_code_c3 12 rfl rfl
theorem wp_ap_letter_d133 : decode prog_1_method_8_code 133 = .ok (.aload_n 0, 1) := wt_op42 wb42thm_prog_1_method_8_code_c3 13 rfl rfl
theorem wp_ap_letter_d134 : decode prog_1_method_8_code 134 = .ok (.getfield 19, 3) := wt_op180 wb42thm_prog_1_method_8_code_c3 14 rfl rfl rfl
theorem wp_ap_letter_d137 : decode prog_1_method_8_code 137 = .ok (.getfield 200, 3) := wt_op180 wb42thm_prog_1_method_8_code_c3 17 rfl rfl rfl
theorem wp_ap_letter_d140 : decode prog_1_method_8_code 140 = .ok (.iload_n 1, 1) := wt_op27 wb42thm_prog_1_method_8_code_c3 20 rfl rfl
theorem wp_ap_letter_d141 : decode prog_1_method_8_code 141 = .ok (.invokestatic 193, 3) := wt_op184 wb42thm_prog_1_method_8_code_c3 21 rfl rfl rfl
theorem wp_ap_letter_d144 : decode prog_1_method_8_code 144 = .ok (.ireturn, 1) := wt_op172 wb42thm_prog_1_method_8_code_c3 24 rfl rfl
theorem wp_ap_letter_d145 : decode prog_1_method_8_code 145 = .ok (.new 167, 3) := wt_op187 wb42thm_prog_1_method_8_code_c3 25 rfl rfl rfl
theorem wp_ap_letter_d148 : decode prog_1_method_8_code 148 = .ok (.dup, 1) := wt_op89 wb42thm_prog_1_method_8_code_c4 0 rfl rfl
theorem wp_ap_letter_d149 : decode prog_1_method_8_code 149 = .ok (.ldc 203, 2) := wt_op18 wb42thm_prog_1_method_8_code_c4 1 rfl rfl
theorem wp_ap_letter_d151 : decode prog_1_method_8_code 151 = .ok (.invokespecial 171, 3) := wt_op183 wb42thm_prog_1_method_8_code_c4 3 rfl rfl rfl
theorem wp_ap_letter_d154 : decode prog_1_method_8_code 154 = .ok (.athrow, 1) := wt_op191 wb42thm_prog_1_method_8_code_c4 6 rfl rfl
noncomputable def wp_ap_letter_B15 (n : Nat) (x1 : Int32) (x2 : Int32) (y0 : Int32) (σ : wt_St) : Option (Nat × Int32 × wt_St) :=
  (wp_ap_refuse n y0 σ).bind fun q2 =>
  if q2.1 = 0 then
  if x2 = (0 : Int32) then
    (wp_sk_pieces n x1 q2.2.2).bind fun q4 =>
    some (0, q4.1, q4.2)
  else if x2 = (1 : Int32) then
    (wp_sk_inCase n x1 q2.2.2).bind fun q6 =>
    some (0, q6.1, q6.2)
  else if x2 = (2 : Int32) then
    (wp_sk_leftOfAll n x1 q2.2.2).bind fun q8 =>
    some (0, q8.1, q8.2)
  else if x2 = (3 : Int32) then
    (wp_sk_mostLeft n x1 q2.2.2).bind fun q10 =>
    some (0, q10.1, q10.2)
  else if x2 = (4 : Int32) then
    (wp_sk_wornOut n x1 q2.2.2).bind fun q12 =>
    some (0, q12.1, q12.2)
  else if x2 = (5 : Int32) then
    (wp_ap_look n 9 x1 q2.2.2).bind fun q14 =>
    some (0, q14.1, q14.2)
  else if x2 = (6 : Int32) then
    (wp_ap_look n 10 x1 q2.2.2).bind fun q16 =>
    some (0, q16.1, q16.2)
  else if x2 = (7 : Int32) then
    (wp_ap_look n 7 x1 q2.2.2).bind fun q18 =>
    some (0, q18.1, q18.2)
  else some (1, 0, q2.2.2)
  else some (q2.1, 0, q2.2.2)
set_option maxRecDepth 100000 in
set_option maxHeartbeats 4000000 in
theorem wp_ap_letter_B15_ok  {x1 : Int32} {x2 : Int32} {X : wt_X} {n : Nat} {res : Nat × Int32 × wt_St} (hE : wt_Ok X prog_1_method_8_code 3 "WornType" 7 8) (hR : wt_RtX X (some .int) 8 res.1 (some res.2.1) res.2.2) (hD : ∀ i, i < 108 → wt_dom (wt_xw X) i)  {σ : wt_St} {y0 : Int32} (h : wp_ap_letter_B15 n x1 x2 y0 σ = some res) : wt_V X 0 σ 15 [some (.ref (wt_ad (wt_xw X) 0)), some (.int x1), some (.int x2)] [.int y0] := by
  unfold wp_ap_letter_B15 at h
  obtain ⟨q2, hq2, h⟩ := wt_bi h
  refine wt_callSXv (mc := 8) (rt0 := (some .int)) hE [.int y0] wt_ld_ap_112 wt_ya_ap_refuse (wp_ap_refuse_ok hR.2.2.2 hq2) (by omega) rfl rfl (Nat.le_of_ble_eq_true rfl) (by decide) (by decide) wp_ap_letter_d15 (fun he => ?_) (fun he => ?_)
  · have h := wt_in he h
    cases h
    exact ⟨_, hR⟩
  have h := wt_ip he h
  refine wt_iload_n hE wp_ap_letter_d18 rfl ?_
  by_cases c3 : x2 = (0 : Int32)
  · have h := wt_ip c3 h
    refine wt_tsIn hE (off := 45) 64 c3 wp_ap_letter_d19 (by decide) (by decide) (by decide) rfl ?_
    refine wt_aload_n hE wp_ap_letter_d64 rfl ?_
    refine wt_getr hE (r := 76) wt_lf_ap_59 (hD 0 (Nat.le_of_ble_eq_true rfl)) wt_L0 rfl wp_ap_letter_d65 ?_
    refine wt_iload_n hE wp_ap_letter_d68 rfl ?_
    obtain ⟨q4, hq4, h⟩ := wt_bi h
    refine wt_callVi hE [.int x1] wt_lm_ap_174 wt_ya_sk_pieces (wp_sk_pieces_ok hD hq4) (by omega) (hD 76 (Nat.le_of_ble_eq_true rfl)) wt_L76 rfl rfl rfl (Nat.le_of_ble_eq_true rfl) (by decide) wp_ap_letter_d69 (fun hbq4 => ?_)
    cases h
    exact wt_iretX hE hR (by decide) wp_ap_letter_d72
  have h := wt_in c3 h
  by_cases c5 : x2 = (1 : Int32)
  · have h := wt_ip c5 h
    refine wt_tsIn hE (off := 54) 73 c5 wp_ap_letter_d19 (by decide) (by decide) (by decide) rfl ?_
    refine wt_aload_n hE wp_ap_letter_d73 rfl ?_
    refine wt_getr hE (r := 76) wt_lf_ap_59 (hD 0 (Nat.le_of_ble_eq_true rfl)) wt_L0 rfl wp_ap_letter_d74 ?_
    refine wt_iload_n hE wp_ap_letter_d77 rfl ?_
    obtain ⟨q6, hq6, h⟩ := wt_bi h
    refine wt_callVi hE [.int x1] wt_lm_ap_178 wt_ya_sk_inCase (wp_sk_inCase_ok hD hq6) (by omega) (hD 76 (Nat.le_of_ble_eq_true rfl)) wt_L76 rfl rfl rfl (Nat.le_of_ble_eq_true rfl) (by decide) wp_ap_letter_d78 (fun hbq6 => ?_)
    cases h
    exact wt_iretX hE hR (by decide) wp_ap_letter_d81
  have h := wt_in c5 h
  by_cases c7 : x2 = (2 : Int32)
  · have h := wt_ip c7 h
    refine wt_tsIn hE (off := 63) 82 c7 wp_ap_letter_d19 (by decide) (by decide) (by decide) rfl ?_
    refine wt_aload_n hE wp_ap_letter_d82 rfl ?_
    refine wt_getr hE (r := 76) wt_lf_ap_59 (hD 0 (Nat.le_of_ble_eq_true rfl)) wt_L0 rfl wp_ap_letter_d83 ?_
    refine wt_iload_n hE wp_ap_letter_d86 rfl ?_
    obtain ⟨q8, hq8, h⟩ := wt_bi h
    refine wt_callVi hE [.int x1] wt_lm_ap_181 wt_ya_sk_leftOfAll (wp_sk_leftOfAll_ok hD hq8) (by omega) (hD 76 (Nat.le_of_ble_eq_true rfl)) wt_L76 rfl rfl rfl (Nat.le_of_ble_eq_true rfl) (by decide) wp_ap_letter_d87 (fun hbq8 => ?_)
    cases h
    exact wt_iretX hE hR (by decide) wp_ap_letter_d90
  have h := wt_in c7 h
  by_cases c9 : x2 = (3 : Int32)
  · have h := wt_ip c9 h
    refine wt_tsIn hE (off := 72) 91 c9 wp_ap_letter_d19 (by decide) (by decide) (by decide) rfl ?_
    refine wt_aload_n hE wp_ap_letter_d91 rfl ?_
    refine wt_getr hE (r := 76) wt_lf_ap_59 (hD 0 (Nat.le_of_ble_eq_true rfl)) wt_L0 rfl wp_ap_letter_d92 ?_
    refine wt_iload_n hE wp_ap_letter_d95 rfl ?_
    obtain ⟨q10, hq10, h⟩ := wt_bi h
    refine wt_callVi hE [.int x1] wt_lm_ap_184 wt_ya_sk_mostLeft (wp_sk_mostLeft_ok hD hq10) (by omega) (hD 76 (Nat.le_of_ble_eq_true rfl)) wt_L76 rfl rfl rfl (Nat.le_of_ble_eq_true rfl) (by decide) wp_ap_letter_d96 (fun hbq10 => ?_)
    cases h
    exact wt_iretX hE hR (by decide) wp_ap_letter_d99
  have h := wt_in c9 h
  by_cases c11 : x2 = (4 : Int32)
  · have h := wt_ip c11 h
    refine wt_tsIn hE (off := 81) 100 c11 wp_ap_letter_d19 (by decide) (by decide) (by decide) rfl ?_
    refine wt_aload_n hE wp_ap_letter_d100 rfl ?_
    refine wt_getr hE (r := 76) wt_lf_ap_59 (hD 0 (Nat.le_of_ble_eq_true rfl)) wt_L0 rfl wp_ap_letter_d101 ?_
    refine wt_iload_n hE wp_ap_letter_d104 rfl ?_
    obtain ⟨q12, hq12, h⟩ := wt_bi h
    refine wt_callVi hE [.int x1] wt_lm_ap_187 wt_ya_sk_wornOut (wp_sk_wornOut_ok hD hq12) (by omega) (hD 76 (Nat.le_of_ble_eq_true rfl)) wt_L76 rfl rfl rfl (Nat.le_of_ble_eq_true rfl) (by decide) wp_ap_letter_d105 (fun hbq12 => ?_)
    cases h
    exact wt_iretX hE hR (by decide) wp_ap_letter_d108
  have h := wt_in c11 h
  by_cases c13 : x2 = (5 : Int32)
  · have h := wt_ip c13 h
    refine wt_tsIn hE (off := 90) 109 c13 wp_ap_letter_d19 (by decide) (by decide) (by decide) rfl ?_
    refine wt_aload_n hE wp_ap_letter_d109 rfl ?_
    refine wt_getr hE (r := 4) wt_lf_ap_19 (hD 0 (Nat.le_of_ble_eq_true rfl)) wt_L0 rfl wp_ap_letter_d110 ?_
    refine wt_getr hE (r := 9) wt_lf_ap_190 (hD 4 (Nat.le_of_ble_eq_true rfl)) wt_L4 rfl wp_ap_letter_d113 ?_
    refine wt_iload_n hE wp_ap_letter_d116 rfl ?_
    obtain ⟨q14, hq14, h⟩ := wt_bi h
    refine wt_callSi hE [.ref (wt_ad (wt_xw X) 9), .int x1] wt_lm_ap_193 wt_ya_ap_look (wp_ap_look_ok (wt_lnE wt_L9) (hD 9 (Nat.le_of_ble_eq_true rfl)) hq14) (by omega) rfl rfl (Nat.le_of_ble_eq_true rfl) (by decide) wp_ap_letter_d117 (fun hbq14 => ?_)
    cases h
    exact wt_iretX hE hR (by decide) wp_ap_letter_d120
  have h := wt_in c13 h
  by_cases c15 : x2 = (6 : Int32)
  · have h := wt_ip c15 h
    refine wt_tsIn hE (off := 102) 121 c15 wp_ap_letter_d19 (by decide) (by decide) (by decide) rfl ?_
    refine wt_aload_n hE wp_ap_letter_d121 rfl ?_
    refine wt_getr hE (r := 4) wt_lf_ap_19 (hD 0 (Nat.le_of_ble_eq_true rfl)) wt_L0 rfl wp_ap_letter_d122 ?_
    refine wt_getr hE (r := 10) wt_lf_ap_197 (hD 4 (Nat.le_of_ble_eq_true rfl)) wt_L4 rfl wp_ap_letter_d125 ?_
    refine wt_iload_n hE wp_ap_letter_d128 rfl ?_
    obtain ⟨q16, hq16, h⟩ := wt_bi h
    refine wt_callSi hE [.ref (wt_ad (wt_xw X) 10), .int x1] wt_lm_ap_193 wt_ya_ap_look (wp_ap_look_ok (wt_lnE wt_L10) (hD 10 (Nat.le_of_ble_eq_true rfl)) hq16) (by omega) rfl rfl (Nat.le_of_ble_eq_true rfl) (by decide) wp_ap_letter_d129 (fun hbq16 => ?_)
    cases h
    exact wt_iretX hE hR (by decide) wp_ap_letter_d132
  have h := wt_in c15 h
  by_cases c17 : x2 = (7 : Int32)
  · have h := wt_ip c17 h
    refine wt_tsIn hE (off := 114) 133 c17 wp_ap_letter_d19 (by decide) (by decide) (by decide) rfl ?_
    refine wt_aload_n hE wp_ap_letter_d133 rfl ?_
    refine wt_getr hE (r := 4) wt_lf_ap_19 (hD 0 (Nat.le_of_ble_eq_true rfl)) wt_L0 rfl wp_ap_letter_d134 ?_
    refine wt_getr hE (r := 7) wt_lf_ap_200 (hD 4 (Nat.le_of_ble_eq_true rfl)) wt_L4 rfl wp_ap_letter_d137 ?_
    refine wt_iload_n hE wp_ap_letter_d140 rfl ?_
    obtain ⟨q18, hq18, h⟩ := wt_bi h
    refine wt_callSi hE [.ref (wt_ad (wt_xw X) 7), .int x1] wt_lm_ap_193 wt_ya_ap_look (wp_ap_look_ok (wt_lnE wt_L7) (hD 7 (Nat.le_of_ble_eq_true rfl)) hq18) (by omega) rfl rfl (Nat.le_of_ble_eq_true rfl) (by decide) wp_ap_letter_d141 (fun hbq18 => ?_)
    cases h
    exact wt_iretX hE hR (by decide) wp_ap_letter_d144
  have h := wt_in c17 h
  refine wt_tsOut hE 8 145 rfl (by decide) (fun j hj => ?_) wp_ap_letter_d19 rfl ?_
  · rcases (show j = 0 ∨ j = 1 ∨ j = 2 ∨ j = 3 ∨ j = 4 ∨ j = 5 ∨ j = 6 ∨ j = 7 by omega) with rfl | rfl | rfl | rfl | rfl | rfl | rfl | rfl
    · exact c3
    · exact c5
    · exact c7
    · exact c9
    · exact c11
    · exact c13
    · exact c15
    · exact c17
  cases h
  exact wt_thrI hE hR 1 rfl (by omega) (by decide) (by decide) (Nat.le_of_ble_eq_true rfl) wp_ap_letter_d145 wp_ap_letter_d148 wp_ap_letter_d149 wp_ap_letter_d151 wp_ap_letter_d154
noncomputable def wp_ap_letter_B10 (n : Nat) (x1 : Int32) (x2 : Int32) (σ : wt_St) : Option (Nat × Int32 × wt_St) :=
  wp_ap_letter_B15 n x1 x2 (1 : Int32) σ
set_option maxRecDepth 100000 in
set_option maxHeartbeats 4000000 in
theorem wp_ap_letter_B10_ok  {x1 : Int32} {x2 : Int32} {X : wt_X} {n : Nat} {res : Nat × Int32 × wt_St} (hE : wt_Ok X prog_1_method_8_code 3 "WornType" 7 8) (hR : wt_RtX X (some .int) 8 res.1 (some res.2.1) res.2.2) (hD : ∀ i, i < 108 → wt_dom (wt_xw X) i)  {σ : wt_St} (h : wp_ap_letter_B10 n x1 x2 σ = some res) : wt_V X 0 σ 10 [some (.ref (wt_ad (wt_xw X) 0)), some (.int x1), some (.int x2)] [] := by
  unfold wp_ap_letter_B10 at h
  refine wt_iconst hE (1 : Int32) wp_ap_letter_d10 wt_ci_1 ?_
  refine wt_goto hE 15 wp_ap_letter_d11 rfl ?_
  exact wp_ap_letter_B15_ok hE hR hD h
noncomputable def wp_ap_letter (n : Nat) (x1 : Int32) (x2 : Int32) (σ : wt_St) : Option (Nat × Int32 × wt_St) :=
  if x1 < 0 then
    wp_ap_letter_B10 n x1 x2 σ
  else
    if x1 < (26 : Int32) then
      wp_ap_letter_B15 n x1 x2 (0 : Int32) σ
    else
      wp_ap_letter_B10 n x1 x2 σ
set_option maxRecDepth 100000 in
set_option maxHeartbeats 4000000 in
theorem wp_ap_letter_ok {l : Launch} (htr : l.stackTraces = false) {w : wt_E} {n : Nat} {x1 : Int32} {x2 : Int32} (hD : ∀ i, i < 108 → wt_dom w i) {σ : wt_St} {q : Nat × Int32 × wt_St} (h : wp_ap_letter n x1 x2 σ = some q) : wt_CtrX l w wt_y_ap_letter prog_1_method_8_code 3 (some .int) 7 8 [.ref (wt_ad w 0), .int x1, .int x2] σ q.1 (some q.2.1) q.2.2 := by
  refine wt_ctrX htr wt_pl_ap_letter rfl (Nat.le_of_ble_eq_true rfl) [some (.ref (wt_ad w 0)), some (.int x1), some (.int x2)] rfl ?_
  intro X hXl hXw hE hR
  subst hXl
  subst hXw
  have hE : wt_Ok X prog_1_method_8_code 3 "WornType" 7 8 := hE
  unfold wp_ap_letter at h
  refine wt_iload_n hE wp_ap_letter_d0 rfl ?_
  refine wt_if_lt hE 10 wp_ap_letter_d1 rfl (fun c1 => ?_) (fun c1 => ?_)
  · have h := wt_ip c1 h
    exact wp_ap_letter_B10_ok hE hR hD h
  · have h := wt_in c1 h
    refine wt_iload_n hE wp_ap_letter_d4 rfl ?_
    refine wt_bipush hE (26 : Int32) wp_ap_letter_d5 wt_cb_26 ?_
    refine wt_icmp_lt hE 14 wp_ap_letter_d7 rfl (fun c19 => ?_) (fun c19 => ?_)
    · have h := wt_ip c19 h
      refine wt_iconst hE (0 : Int32) wp_ap_letter_d14 wt_ci_0 ?_
      exact wp_ap_letter_B15_ok hE hR hD h
    · have h := wt_in c19 h
      exact wp_ap_letter_B10_ok hE hR hD h
def wb42thm_prog_1_method_30_code_r1 : List (List Nat) := [182, 1, 84, 172] :: []
def wb42thm_prog_1_method_30_code_r0 : List (List Nat) := [27, 155, 0, 9, 27, 16, 100, 164, 0, 7, 4, 167, 0, 4, 3, 184, 0, 112, 42, 180, 0, 84, 27, 182, 1, 75, 42, 180, 0, 84] :: wb42thm_prog_1_method_30_code_r1
set_option maxRecDepth 100000 in
theorem wb42thm_prog_1_method_30_code_c0 : wt_cs prog_1_method_30_code 0 wb42thm_prog_1_method_30_code_r0 := wt_cs_of (by decide +kernel)
theorem wb42thm_prog_1_method_30_code_c1 : wt_cs prog_1_method_30_code 30 wb42thm_prog_1_method_30_code_r1 := wt_cs_tl (m := 30) wb42thm_prog_1_method_30_code_c0 rfl rfl
theorem wp_ap_lost_d0 : decode prog_1_method_30_code 0 = .ok (.iload_n 1, 1) := wt_op27 wb42thm_prog_1_method_30_code_c0 0 rfl rfl
theorem wp_ap_lost_d1 : decode prog_1_method_30_code 1 = .ok (.ifCond .lt 9, 3) := wt_op155 wb42thm_prog_1_method_30_code_c0 1 rfl rfl rfl
theorem wp_ap_lost_d4 : decode prog_1_method_30_code 4 = .ok (.iload_n 1, 1) := wt_op27 wb42thm_prog_1_method_30_code_c0 4 rfl rfl
theorem wp_ap_lost_d5 : decode prog_1_method_30_code 5 = .ok (.bipush 100, 2) := wt_op16 wb42thm_prog_1_method_30_code_c0 5 rfl rfl rfl
theorem wp_ap_lost_d7 : decode prog_1_method_30_code 7 = .ok (.if_icmp .le 7, 3) := wt_op164 wb42thm_prog_1_method_30_code_c0 7 rfl rfl rfl
theorem wp_ap_lost_d10 : decode prog_1_method_30_code 10 = .ok (.iconst 1, 1) := wt_op4 wb42thm_prog_1_method_30_code_c0 10 rfl rfl
theorem wp_ap_lost_d11 : decode prog_1_method_30_code 11 = .ok (.goto 4, 3) := wt_op167 wb42thm_prog_1_method_30_code_c0 11 rfl rfl rfl
theorem wp_ap_lost_d14 : decode prog_1_method_30_code 14 = .ok (.iconst 0, 1) := wt_op3 wb42thm_prog_1_method_30_code_c0 14 rfl rfl
theorem wp_ap_lost_d15 : decode prog_1_method_30_code 15 = .ok (.invokestatic 112, 3) := wt_op184 wb42thm_prog_1_method_30_code_c0 15 rfl rfl rfl
theorem wp_ap_lost_d18 : decode prog_1_method_30_code 18 = .ok (.aload_n 0, 1) := wt_op42 wb42thm_prog_1_method_30_code_c0 18 rfl rfl
theorem wp_ap_lost_d19 : decode prog_1_method_30_code 19 = .ok (.getfield 84, 3) := wt_op180 wb42thm_prog_1_method_30_code_c0 19 rfl rfl rfl
theorem wp_ap_lost_d22 : decode prog_1_method_30_code 22 = .ok (.iload_n 1, 1) := wt_op27 wb42thm_prog_1_method_30_code_c0 22 rfl rfl
theorem wp_ap_lost_d23 : decode prog_1_method_30_code 23 = .ok (.invokevirtual 331, 3) := wt_op182 wb42thm_prog_1_method_30_code_c0 23 rfl rfl rfl
theorem wp_ap_lost_d26 : decode prog_1_method_30_code 26 = .ok (.aload_n 0, 1) := wt_op42 wb42thm_prog_1_method_30_code_c0 26 rfl rfl
theorem wp_ap_lost_d27 : decode prog_1_method_30_code 27 = .ok (.getfield 84, 3) := wt_op180 wb42thm_prog_1_method_30_code_c0 27 rfl rfl rfl
theorem wp_ap_lost_d30 : decode prog_1_method_30_code 30 = .ok (.invokevirtual 340, 3) := wt_op182 wb42thm_prog_1_method_30_code_c1 0 rfl rfl rfl
theorem wp_ap_lost_d33 : decode prog_1_method_30_code 33 = .ok (.ireturn, 1) := wt_op172 wb42thm_prog_1_method_30_code_c1 3 rfl rfl
noncomputable def wp_ap_lost_B15 (n : Nat) (x1 : Int32) (y0 : Int32) (σ : wt_St) : Option (Nat × Int32 × wt_St) :=
  (wp_ap_refuse n y0 σ).bind fun q2 =>
  if q2.1 = 0 then
  (wp_wk_printGreedily n x1 q2.2.2).bind fun q3 =>
  (wp_wk_wordsLost n q3).bind fun q4 =>
  some (0, q4.1, q4.2)
  else some (q2.1, 0, q2.2.2)
set_option maxRecDepth 100000 in
set_option maxHeartbeats 4000000 in
theorem wp_ap_lost_B15_ok  {x1 : Int32} {X : wt_X} {n : Nat} {res : Nat × Int32 × wt_St} (hE : wt_Ok X prog_1_method_30_code 2 "WornType" 7 8) (hR : wt_RtX X (some .int) 8 res.1 (some res.2.1) res.2.2) (hD : ∀ i, i < 108 → wt_dom (wt_xw X) i)  {σ : wt_St} {y0 : Int32} (h : wp_ap_lost_B15 n x1 y0 σ = some res) : wt_V X 0 σ 15 [some (.ref (wt_ad (wt_xw X) 0)), some (.int x1)] [.int y0] := by
  unfold wp_ap_lost_B15 at h
  obtain ⟨q2, hq2, h⟩ := wt_bi h
  refine wt_callSXv (mc := 8) (rt0 := (some .int)) hE [.int y0] wt_ld_ap_112 wt_ya_ap_refuse (wp_ap_refuse_ok hR.2.2.2 hq2) (by omega) rfl rfl (Nat.le_of_ble_eq_true rfl) (by decide) (by decide) wp_ap_lost_d15 (fun he => ?_) (fun he => ?_)
  · have h := wt_in he h
    cases h
    exact ⟨_, hR⟩
  have h := wt_ip he h
  refine wt_aload_n hE wp_ap_lost_d18 rfl ?_
  refine wt_getr hE (r := 86) wt_lf_ap_84 (hD 0 (Nat.le_of_ble_eq_true rfl)) wt_L0 rfl wp_ap_lost_d19 ?_
  refine wt_iload_n hE wp_ap_lost_d22 rfl ?_
  obtain ⟨q3, hq3, h⟩ := wt_bi h
  refine wt_callVv hE [.int x1] wt_lm_ap_331 wt_ya_wk_printGreedily (wp_wk_printGreedily_ok hD hq3) (by omega) (hD 86 (Nat.le_of_ble_eq_true rfl)) wt_L86 rfl rfl rfl (Nat.le_of_ble_eq_true rfl) (by decide) wp_ap_lost_d23 ?_
  refine wt_aload_n hE wp_ap_lost_d26 rfl ?_
  refine wt_getr hE (r := 86) wt_lf_ap_84 (hD 0 (Nat.le_of_ble_eq_true rfl)) wt_L0 rfl wp_ap_lost_d27 ?_
  obtain ⟨q4, hq4, h⟩ := wt_bi h
  refine wt_callVi hE [] wt_lm_ap_340 wt_ya_wk_wordsLost (wp_wk_wordsLost_ok hD hq4) (by omega) (hD 86 (Nat.le_of_ble_eq_true rfl)) wt_L86 rfl rfl rfl (Nat.le_of_ble_eq_true rfl) (by decide) wp_ap_lost_d30 (fun hbq4 => ?_)
  cases h
  exact wt_iretX hE hR (by decide) wp_ap_lost_d33
noncomputable def wp_ap_lost_B10 (n : Nat) (x1 : Int32) (σ : wt_St) : Option (Nat × Int32 × wt_St) :=
  wp_ap_lost_B15 n x1 (1 : Int32) σ
set_option maxRecDepth 100000 in
set_option maxHeartbeats 4000000 in
theorem wp_ap_lost_B10_ok  {x1 : Int32} {X : wt_X} {n : Nat} {res : Nat × Int32 × wt_St} (hE : wt_Ok X prog_1_method_30_code 2 "WornType" 7 8) (hR : wt_RtX X (some .int) 8 res.1 (some res.2.1) res.2.2) (hD : ∀ i, i < 108 → wt_dom (wt_xw X) i)  {σ : wt_St} (h : wp_ap_lost_B10 n x1 σ = some res) : wt_V X 0 σ 10 [some (.ref (wt_ad (wt_xw X) 0)), some (.int x1)] [] := by
  unfold wp_ap_lost_B10 at h
  refine wt_iconst hE (1 : Int32) wp_ap_lost_d10 wt_ci_1 ?_
  refine wt_goto hE 15 wp_ap_lost_d11 rfl ?_
  exact wp_ap_lost_B15_ok hE hR hD h
noncomputable def wp_ap_lost (n : Nat) (x1 : Int32) (σ : wt_St) : Option (Nat × Int32 × wt_St) :=
  if x1 < 0 then
    wp_ap_lost_B10 n x1 σ
  else
    if x1 ≤ (100 : Int32) then
      wp_ap_lost_B15 n x1 (0 : Int32) σ
    else
      wp_ap_lost_B10 n x1 σ
set_option maxRecDepth 100000 in
set_option maxHeartbeats 4000000 in
theorem wp_ap_lost_ok {l : Launch} (htr : l.stackTraces = false) {w : wt_E} {n : Nat} {x1 : Int32} (hD : ∀ i, i < 108 → wt_dom w i) {σ : wt_St} {q : Nat × Int32 × wt_St} (h : wp_ap_lost n x1 σ = some q) : wt_CtrX l w wt_y_ap_lost prog_1_method_30_code 2 (some .int) 7 8 [.ref (wt_ad w 0), .int x1] σ q.1 (some q.2.1) q.2.2 := by
  refine wt_ctrX htr wt_pl_ap_lost rfl (Nat.le_of_ble_eq_true rfl) [some (.ref (wt_ad w 0)), some (.int x1)] rfl ?_
  intro X hXl hXw hE hR
  subst hXl
  subst hXw
  have hE : wt_Ok X prog_1_method_30_code 2 "WornType" 7 8 := hE
  unfold wp_ap_lost at h
  refine wt_iload_n hE wp_ap_lost_d0 rfl ?_
  refine wt_if_lt hE 10 wp_ap_lost_d1 rfl (fun c1 => ?_) (fun c1 => ?_)
  · have h := wt_ip c1 h
    exact wp_ap_lost_B10_ok hE hR hD h
  · have h := wt_in c1 h
    refine wt_iload_n hE wp_ap_lost_d4 rfl ?_
    refine wt_bipush hE (100 : Int32) wp_ap_lost_d5 wt_cb_100 ?_
    refine wt_icmp_le hE 14 wp_ap_lost_d7 rfl (fun c5 => ?_) (fun c5 => ?_)
    · have h := wt_ip c5 h
      refine wt_iconst hE (0 : Int32) wp_ap_lost_d14 wt_ci_0 ?_
      exact wp_ap_lost_B15_ok hE hR hD h
    · have h := wt_in c5 h
      exact wp_ap_lost_B10_ok hE hR hD h
def wb42thm_prog_1_method_26_code_r2 : List (List Nat) := [172] :: []
def wb42thm_prog_1_method_26_code_r1 : List (List Nat) := [42, 180, 0, 84, 180, 1, 66, 172, 27, 154, 0, 13, 42, 180, 0, 84, 180, 1, 69, 167, 0, 10, 42, 180, 0, 84, 180, 1, 72] :: wb42thm_prog_1_method_26_code_r2
def wb42thm_prog_1_method_26_code_r0 : List (List Nat) := [27, 155, 0, 8, 27, 5, 164, 0, 7, 4, 167, 0, 4, 3, 184, 0, 112, 42, 180, 0, 84, 182, 1, 63, 27, 5, 160, 0, 11] :: wb42thm_prog_1_method_26_code_r1
set_option maxRecDepth 100000 in
theorem wb42thm_prog_1_method_26_code_c0 : wt_cs prog_1_method_26_code 0 wb42thm_prog_1_method_26_code_r0 := wt_cs_of (by decide +kernel)
theorem wb42thm_prog_1_method_26_code_c1 : wt_cs prog_1_method_26_code 29 wb42thm_prog_1_method_26_code_r1 := wt_cs_tl (m := 29) wb42thm_prog_1_method_26_code_c0 rfl rfl
theorem wb42thm_prog_1_method_26_code_c2 : wt_cs prog_1_method_26_code 58 wb42thm_prog_1_method_26_code_r2 := wt_cs_tl (m := 29) wb42thm_prog_1_method_26_code_c1 rfl rfl
theorem wp_ap_most_d0 : decode prog_1_method_26_code 0 = .ok (.iload_n 1, 1) := wt_op27 wb42thm_prog_1_method_26_code_c0 0 rfl rfl
theorem wp_ap_most_d1 : decode prog_1_method_26_code 1 = .ok (.ifCond .lt 8, 3) := wt_op155 wb42thm_prog_1_method_26_code_c0 1 rfl rfl rfl
theorem wp_ap_most_d4 : decode prog_1_method_26_code 4 = .ok (.iload_n 1, 1) := wt_op27 wb42thm_prog_1_method_26_code_c0 4 rfl rfl
theorem wp_ap_most_d5 : decode prog_1_method_26_code 5 = .ok (.iconst 2, 1) := wt_op5 wb42thm_prog_1_method_26_code_c0 5 rfl rfl
theorem wp_ap_most_d6 : decode prog_1_method_26_code 6 = .ok (.if_icmp .le 7, 3) := wt_op164 wb42thm_prog_1_method_26_code_c0 6 rfl rfl rfl
theorem wp_ap_most_d9 : decode prog_1_method_26_code 9 = .ok (.iconst 1, 1) := wt_op4 wb42thm_prog_1_method_26_code_c0 9 rfl rfl
theorem wp_ap_most_d10 : decode prog_1_method_26_code 10 = .ok (.goto 4, 3) := wt_op167 wb42thm_prog_1_method_26_code_c0 10 rfl rfl rfl
theorem wp_ap_most_d13 : decode prog_1_method_26_code 13 = .ok (.iconst 0, 1) := wt_op3 wb42thm_prog_1_method_26_code_c0 13 rfl rfl
theorem wp_ap_most_d14 : decode prog_1_method_26_code 14 = .ok (.invokestatic 112, 3) := wt_op184 wb42thm_prog_1_method_26_code_c0 14 rfl rfl rfl
theorem wp_ap_most_d17 : decode prog_1_method_26_code 17 = .ok (.aload_n 0, 1) := wt_op42 wb42thm_prog_1_method_26_code_c0 17 rfl rfl
theorem wp_ap_most_d18 : decode prog_1_method_26_code 18 = .ok (.getfield 84, 3) := wt_op180 wb42thm_prog_1_method_26_code_c0 18 rfl rfl rfl
theorem wp_ap_most_d21 : decode prog_1_method_26_code 21 = .ok (.invokevirtual 319, 3) := wt_op182 wb42thm_prog_1_method_26_code_c0 21 rfl rfl rfl
theorem wp_ap_most_d24 : decode prog_1_method_26_code 24 = .ok (.iload_n 1, 1) := wt_op27 wb42thm_prog_1_method_26_code_c0 24 rfl rfl
theorem wp_ap_most_d25 : decode prog_1_method_26_code 25 = .ok (.iconst 2, 1) := wt_op5 wb42thm_prog_1_method_26_code_c0 25 rfl rfl
theorem wp_ap_most_d26 : decode prog_1_method_26_code 26 = .ok (.if_icmp .ne 11, 3) := wt_op160 wb42thm_prog_1_method_26_code_c0 26 rfl rfl rfl
theorem wp_ap_most_d29 : decode prog_1_method_26_code 29 = .ok (.aload_n 0, 1) := wt_op42 wb42thm_prog_1_method_26_code_c1 0 rfl rfl
theorem wp_ap_most_d30 : decode prog_1_method_26_code 30 = .ok (.getfield 84, 3) := wt_op180 wb42thm_prog_1_method_26_code_c1 1 rfl rfl rfl
theorem wp_ap_most_d33 : decode prog_1_method_26_code 33 = .ok (.getfield 322, 3) := wt_op180 wb42thm_prog_1_method_26_code_c1 4 rfl rfl rfl
theorem wp_ap_most_d36 : decode prog_1_method_26_code 36 = .ok (.ireturn, 1) := wt_op172 wb42thm_prog_1_method_26_code_c1 7 rfl rfl
theorem wp_ap_most_d37 : decode prog_1_method_26_code 37 = .ok (.iload_n 1, 1) := wt_op27 wb42thm_prog_1_method_26_code_c1 8 rfl rfl
theorem wp_ap_most_d38 : decode prog_1_method_26_code 38 = .ok (.ifCond .ne 13, 3) := wt_op154 wb42thm_prog_1_method_26_code_c1 9 rfl rfl rfl
theorem wp_ap_most_d41 : decode prog_1_method_26_code 41 = .ok (.aload_n 0, 1) := wt_op42 wb42thm_prog_1_method_26_code_c1 12 rfl rfl
theorem wp_ap_most_d42 : decode prog_1_method_26_code 42 = .ok (.getfield 84, 3) := wt_op180 wb42thm_prog_1_method_26_code_c1 13 rfl rfl rfl
theorem wp_ap_most_d45 : decode prog_1_method_26_code 45 = .ok (.getfield 325, 3) := wt_op180 wb42thm_prog_1_method_26_code_c1 16 rfl rfl rfl
theorem wp_ap_most_d48 : decode prog_1_method_26_code 48 = .ok (.goto 10, 3) := wt_op167 wb42thm_prog_1_method_26_code_c1 19 rfl rfl rfl
theorem wp_ap_most_d51 : decode prog_1_method_26_code 51 = .ok (.aload_n 0, 1) := wt_op42 wb42thm_prog_1_method_26_code_c1 22 rfl rfl
theorem wp_ap_most_d52 : decode prog_1_method_26_code 52 = .ok (.getfield 84, 3) := wt_op180 wb42thm_prog_1_method_26_code_c1 23 rfl rfl rfl
theorem wp_ap_most_d55 : decode prog_1_method_26_code 55 = .ok (.getfield 328, 3) := wt_op180 wb42thm_prog_1_method_26_code_c1 26 rfl rfl rfl
theorem wp_ap_most_d58 : decode prog_1_method_26_code 58 = .ok (.ireturn, 1) := wt_op172 wb42thm_prog_1_method_26_code_c2 0 rfl rfl
noncomputable def wp_ap_most_B14 (n : Nat) (x1 : Int32) (y0 : Int32) (σ : wt_St) : Option (Nat × Int32 × wt_St) :=
  (wp_ap_refuse n y0 σ).bind fun q2 =>
  if q2.1 = 0 then
  (wp_wk_findMost n q2.2.2).bind fun q3 =>
  if x1 = (2 : Int32) then
    some (0, (wt_gf q3 86 10), q3)
  else
    if x1 = 0 then
      some (0, (wt_gf q3 86 8), q3)
    else
      some (0, (wt_gf q3 86 9), q3)
  else some (q2.1, 0, q2.2.2)
set_option maxRecDepth 100000 in
set_option maxHeartbeats 4000000 in
theorem wp_ap_most_B14_ok  {x1 : Int32} {X : wt_X} {n : Nat} {res : Nat × Int32 × wt_St} (hE : wt_Ok X prog_1_method_26_code 2 "WornType" 23 8) (hR : wt_RtX X (some .int) 8 res.1 (some res.2.1) res.2.2) (hD : ∀ i, i < 108 → wt_dom (wt_xw X) i)  {σ : wt_St} {y0 : Int32} (h : wp_ap_most_B14 n x1 y0 σ = some res) : wt_V X 0 σ 14 [some (.ref (wt_ad (wt_xw X) 0)), some (.int x1)] [.int y0] := by
  unfold wp_ap_most_B14 at h
  obtain ⟨q2, hq2, h⟩ := wt_bi h
  refine wt_callSXv (mc := 8) (rt0 := (some .int)) hE [.int y0] wt_ld_ap_112 wt_ya_ap_refuse (wp_ap_refuse_ok hR.2.2.2 hq2) (by omega) rfl rfl (Nat.le_of_ble_eq_true rfl) (by decide) (by decide) wp_ap_most_d14 (fun he => ?_) (fun he => ?_)
  · have h := wt_in he h
    cases h
    exact ⟨_, hR⟩
  have h := wt_ip he h
  refine wt_aload_n hE wp_ap_most_d17 rfl ?_
  refine wt_getr hE (r := 86) wt_lf_ap_84 (hD 0 (Nat.le_of_ble_eq_true rfl)) wt_L0 rfl wp_ap_most_d18 ?_
  obtain ⟨q3, hq3, h⟩ := wt_bi h
  refine wt_callVv hE [] wt_lm_ap_319 wt_ya_wk_findMost (wp_wk_findMost_ok hD hq3) (by omega) (hD 86 (Nat.le_of_ble_eq_true rfl)) wt_L86 rfl rfl rfl (Nat.le_of_ble_eq_true rfl) (by decide) wp_ap_most_d21 ?_
  refine wt_iload_n hE wp_ap_most_d24 rfl ?_
  refine wt_iconst hE (2 : Int32) wp_ap_most_d25 wt_ci_2 ?_
  refine wt_icmp_ne hE 37 wp_ap_most_d26 rfl (fun c4 => ?_) (fun c4 => ?_)
  · have h := wt_in c4 h
    refine wt_iload_n hE wp_ap_most_d37 rfl ?_
    refine wt_if_ne hE 51 wp_ap_most_d38 rfl (fun c5 => ?_) (fun c5 => ?_)
    · have h := wt_in c5 h
      refine wt_aload_n hE wp_ap_most_d51 rfl ?_
      refine wt_getr hE (r := 86) wt_lf_ap_84 (hD 0 (Nat.le_of_ble_eq_true rfl)) wt_L0 rfl wp_ap_most_d52 ?_
      refine wt_geti hE wt_lf_ap_328 (hD 86 (Nat.le_of_ble_eq_true rfl)) wt_L86 rfl wp_ap_most_d55 ?_
      cases h
      exact wt_iretX hE hR (by decide) wp_ap_most_d58
    · have h := wt_ip c5 h
      refine wt_aload_n hE wp_ap_most_d41 rfl ?_
      refine wt_getr hE (r := 86) wt_lf_ap_84 (hD 0 (Nat.le_of_ble_eq_true rfl)) wt_L0 rfl wp_ap_most_d42 ?_
      refine wt_geti hE wt_lf_ap_325 (hD 86 (Nat.le_of_ble_eq_true rfl)) wt_L86 rfl wp_ap_most_d45 ?_
      refine wt_goto hE 58 wp_ap_most_d48 rfl ?_
      cases h
      exact wt_iretX hE hR (by decide) wp_ap_most_d58
  · have h := wt_ip c4 h
    refine wt_aload_n hE wp_ap_most_d29 rfl ?_
    refine wt_getr hE (r := 86) wt_lf_ap_84 (hD 0 (Nat.le_of_ble_eq_true rfl)) wt_L0 rfl wp_ap_most_d30 ?_
    refine wt_geti hE wt_lf_ap_322 (hD 86 (Nat.le_of_ble_eq_true rfl)) wt_L86 rfl wp_ap_most_d33 ?_
    cases h
    exact wt_iretX hE hR (by decide) wp_ap_most_d36
noncomputable def wp_ap_most_B9 (n : Nat) (x1 : Int32) (σ : wt_St) : Option (Nat × Int32 × wt_St) :=
  wp_ap_most_B14 n x1 (1 : Int32) σ
set_option maxRecDepth 100000 in
set_option maxHeartbeats 4000000 in
theorem wp_ap_most_B9_ok  {x1 : Int32} {X : wt_X} {n : Nat} {res : Nat × Int32 × wt_St} (hE : wt_Ok X prog_1_method_26_code 2 "WornType" 23 8) (hR : wt_RtX X (some .int) 8 res.1 (some res.2.1) res.2.2) (hD : ∀ i, i < 108 → wt_dom (wt_xw X) i)  {σ : wt_St} (h : wp_ap_most_B9 n x1 σ = some res) : wt_V X 0 σ 9 [some (.ref (wt_ad (wt_xw X) 0)), some (.int x1)] [] := by
  unfold wp_ap_most_B9 at h
  refine wt_iconst hE (1 : Int32) wp_ap_most_d9 wt_ci_1 ?_
  refine wt_goto hE 14 wp_ap_most_d10 rfl ?_
  exact wp_ap_most_B14_ok hE hR hD h
noncomputable def wp_ap_most (n : Nat) (x1 : Int32) (σ : wt_St) : Option (Nat × Int32 × wt_St) :=
  if x1 < 0 then
    wp_ap_most_B9 n x1 σ
  else
    if x1 ≤ (2 : Int32) then
      wp_ap_most_B14 n x1 (0 : Int32) σ
    else
      wp_ap_most_B9 n x1 σ
set_option maxRecDepth 100000 in
set_option maxHeartbeats 4000000 in
theorem wp_ap_most_ok {l : Launch} (htr : l.stackTraces = false) {w : wt_E} {n : Nat} {x1 : Int32} (hD : ∀ i, i < 108 → wt_dom w i) {σ : wt_St} {q : Nat × Int32 × wt_St} (h : wp_ap_most n x1 σ = some q) : wt_CtrX l w wt_y_ap_most prog_1_method_26_code 2 (some .int) 23 8 [.ref (wt_ad w 0), .int x1] σ q.1 (some q.2.1) q.2.2 := by
  refine wt_ctrX htr wt_pl_ap_most rfl (Nat.le_of_ble_eq_true rfl) [some (.ref (wt_ad w 0)), some (.int x1)] rfl ?_
  intro X hXl hXw hE hR
  subst hXl
  subst hXw
  have hE : wt_Ok X prog_1_method_26_code 2 "WornType" 23 8 := hE
  unfold wp_ap_most at h
  refine wt_iload_n hE wp_ap_most_d0 rfl ?_
  refine wt_if_lt hE 9 wp_ap_most_d1 rfl (fun c1 => ?_) (fun c1 => ?_)
  · have h := wt_ip c1 h
    exact wp_ap_most_B9_ok hE hR hD h
  · have h := wt_in c1 h
    refine wt_iload_n hE wp_ap_most_d4 rfl ?_
    refine wt_iconst hE (2 : Int32) wp_ap_most_d5 wt_ci_2 ?_
    refine wt_icmp_le hE 13 wp_ap_most_d6 rfl (fun c6 => ?_) (fun c6 => ?_)
    · have h := wt_ip c6 h
      refine wt_iconst hE (0 : Int32) wp_ap_most_d13 wt_ci_0 ?_
      exact wp_ap_most_B14_ok hE hR hD h
    · have h := wt_in c6 h
      exact wp_ap_most_B9_ok hE hR hD h
def wb42thm_prog_1_method_12_code_r1 : List (List Nat) := [4, 167, 0, 4, 3, 184, 0, 219, 42, 180, 0, 39, 27, 28, 182, 0, 249, 172] :: []
def wb42thm_prog_1_method_12_code_r0 : List (List Nat) := [28, 155, 0, 9, 28, 16, 26, 161, 0, 7, 4, 167, 0, 4, 3, 184, 0, 112, 42, 180, 0, 39, 27, 182, 0, 244, 154, 0, 7] :: wb42thm_prog_1_method_12_code_r1
set_option maxRecDepth 100000 in
theorem wb42thm_prog_1_method_12_code_c0 : wt_cs prog_1_method_12_code 0 wb42thm_prog_1_method_12_code_r0 := wt_cs_of (by decide +kernel)
theorem wb42thm_prog_1_method_12_code_c1 : wt_cs prog_1_method_12_code 29 wb42thm_prog_1_method_12_code_r1 := wt_cs_tl (m := 29) wb42thm_prog_1_method_12_code_c0 rfl rfl
theorem wp_ap_needs_d0 : decode prog_1_method_12_code 0 = .ok (.iload_n 2, 1) := wt_op28 wb42thm_prog_1_method_12_code_c0 0 rfl rfl
theorem wp_ap_needs_d1 : decode prog_1_method_12_code 1 = .ok (.ifCond .lt 9, 3) := wt_op155 wb42thm_prog_1_method_12_code_c0 1 rfl rfl rfl
theorem wp_ap_needs_d4 : decode prog_1_method_12_code 4 = .ok (.iload_n 2, 1) := wt_op28 wb42thm_prog_1_method_12_code_c0 4 rfl rfl
theorem wp_ap_needs_d5 : decode prog_1_method_12_code 5 = .ok (.bipush 26, 2) := wt_op16 wb42thm_prog_1_method_12_code_c0 5 rfl rfl rfl
theorem wp_ap_needs_d7 : decode prog_1_method_12_code 7 = .ok (.if_icmp .lt 7, 3) := wt_op161 wb42thm_prog_1_method_12_code_c0 7 rfl rfl rfl
theorem wp_ap_needs_d10 : decode prog_1_method_12_code 10 = .ok (.iconst 1, 1) := wt_op4 wb42thm_prog_1_method_12_code_c0 10 rfl rfl
theorem wp_ap_needs_d11 : decode prog_1_method_12_code 11 = .ok (.goto 4, 3) := wt_op167 wb42thm_prog_1_method_12_code_c0 11 rfl rfl rfl
theorem wp_ap_needs_d14 : decode prog_1_method_12_code 14 = .ok (.iconst 0, 1) := wt_op3 wb42thm_prog_1_method_12_code_c0 14 rfl rfl
theorem wp_ap_needs_d15 : decode prog_1_method_12_code 15 = .ok (.invokestatic 112, 3) := wt_op184 wb42thm_prog_1_method_12_code_c0 15 rfl rfl rfl
theorem wp_ap_needs_d18 : decode prog_1_method_12_code 18 = .ok (.aload_n 0, 1) := wt_op42 wb42thm_prog_1_method_12_code_c0 18 rfl rfl
theorem wp_ap_needs_d19 : decode prog_1_method_12_code 19 = .ok (.getfield 39, 3) := wt_op180 wb42thm_prog_1_method_12_code_c0 19 rfl rfl rfl
theorem wp_ap_needs_d22 : decode prog_1_method_12_code 22 = .ok (.iload_n 1, 1) := wt_op27 wb42thm_prog_1_method_12_code_c0 22 rfl rfl
theorem wp_ap_needs_d23 : decode prog_1_method_12_code 23 = .ok (.invokevirtual 244, 3) := wt_op182 wb42thm_prog_1_method_12_code_c0 23 rfl rfl rfl
theorem wp_ap_needs_d26 : decode prog_1_method_12_code 26 = .ok (.ifCond .ne 7, 3) := wt_op154 wb42thm_prog_1_method_12_code_c0 26 rfl rfl rfl
theorem wp_ap_needs_d29 : decode prog_1_method_12_code 29 = .ok (.iconst 1, 1) := wt_op4 wb42thm_prog_1_method_12_code_c1 0 rfl rfl
theorem wp_ap_needs_d30 : decode prog_1_method_12_code 30 = .ok (.goto 4, 3) := wt_op167 wb42thm_prog_1_method_12_code_c1 1 rfl rfl rfl
theorem wp_ap_needs_d33 : decode prog_1_method_12_code 33 = .ok (.iconst 0, 1) := wt_op3 wb42thm_prog_1_method_12_code_c1 4 rfl rfl
theorem wp_ap_needs_d34 : decode prog_1_method_12_code 34 = .ok (.invokestatic 219, 3) := wt_op184 wb42thm_prog_1_method_12_code_c1 5 rfl rfl rfl
theorem wp_ap_needs_d37 : decode prog_1_method_12_code 37 = .ok (.aload_n 0, 1) := wt_op42 wb42thm_prog_1_method_12_code_c1 8 rfl rfl
theorem wp_ap_needs_d38 : decode prog_1_method_12_code 38 = .ok (.getfield 39, 3) := wt_op180 wb42thm_prog_1_method_12_code_c1 9 rfl rfl rfl
theorem wp_ap_needs_d41 : decode prog_1_method_12_code 41 = .ok (.iload_n 1, 1) := wt_op27 wb42thm_prog_1_method_12_code_c1 12 rfl rfl
theorem wp_ap_needs_d42 : decode prog_1_method_12_code 42 = .ok (.iload_n 2, 1) := wt_op28 wb42thm_prog_1_method_12_code_c1 13 rfl rfl
theorem wp_ap_needs_d43 : decode prog_1_method_12_code 43 = .ok (.invokevirtual 249, 3) := wt_op182 wb42thm_prog_1_method_12_code_c1 14 rfl rfl rfl
theorem wp_ap_needs_d46 : decode prog_1_method_12_code 46 = .ok (.ireturn, 1) := wt_op172 wb42thm_prog_1_method_12_code_c1 17 rfl rfl
noncomputable def wp_ap_needs_B34 (n : Nat) (x1 : Int32) (x2 : Int32) (y0 : Int32) (σ : wt_St) : Option (Nat × Int32 × wt_St) :=
  (wp_ap_miss n y0 σ).bind fun q5 =>
  if q5.1 = 0 then
  (wp_tx_needOf n x1 x2 q5.2.2).bind fun q6 =>
  some (0, q6.1, q6.2)
  else some (q5.1, 0, q5.2.2)
set_option maxRecDepth 100000 in
set_option maxHeartbeats 4000000 in
theorem wp_ap_needs_B34_ok  {x1 : Int32} {x2 : Int32} {X : wt_X} {n : Nat} {res : Nat × Int32 × wt_St} (hE : wt_Ok X prog_1_method_12_code 3 "WornType" 7 8) (hR : wt_RtX X (some .int) 8 res.1 (some res.2.1) res.2.2) (hD : ∀ i, i < 108 → wt_dom (wt_xw X) i)  {σ : wt_St} {y0 : Int32} (h : wp_ap_needs_B34 n x1 x2 y0 σ = some res) : wt_V X 1 σ 34 [some (.ref (wt_ad (wt_xw X) 0)), some (.int x1), some (.int x2)] [.int y0] := by
  unfold wp_ap_needs_B34 at h
  obtain ⟨q5, hq5, h⟩ := wt_bi h
  refine wt_callSXv (mc := 8) (rt0 := (some .int)) hE [.int y0] wt_ld_ap_219 wt_ya_ap_miss (wp_ap_miss_ok hR.2.2.2 hq5) (by omega) rfl rfl (Nat.le_of_ble_eq_true rfl) (by decide) (by decide) wp_ap_needs_d34 (fun he => ?_) (fun he => ?_)
  · have h := wt_in he h
    cases h
    exact ⟨_, hR⟩
  have h := wt_ip he h
  refine wt_aload_n hE wp_ap_needs_d37 rfl ?_
  refine wt_getr hE (r := 34) wt_lf_ap_39 (hD 0 (Nat.le_of_ble_eq_true rfl)) wt_L0 rfl wp_ap_needs_d38 ?_
  refine wt_iload_n hE wp_ap_needs_d41 rfl ?_
  refine wt_iload_n hE wp_ap_needs_d42 rfl ?_
  obtain ⟨q6, hq6, h⟩ := wt_bi h
  refine wt_callVi hE [.int x1, .int x2] wt_lm_ap_249 wt_ya_tx_needOf (wp_tx_needOf_ok hD hq6) (by omega) (hD 34 (Nat.le_of_ble_eq_true rfl)) wt_L34 rfl rfl rfl (Nat.le_of_ble_eq_true rfl) (by decide) wp_ap_needs_d43 (fun hbq6 => ?_)
  cases h
  exact wt_iretX hE hR (by decide) wp_ap_needs_d46
noncomputable def wp_ap_needs_B15 (n : Nat) (x1 : Int32) (x2 : Int32) (y0 : Int32) (σ : wt_St) : Option (Nat × Int32 × wt_St) :=
  (wp_ap_refuse n y0 σ).bind fun q2 =>
  if q2.1 = 0 then
  (wp_tx_has n x1 q2.2.2).bind fun q3 =>
  if q3.1 = 0 then
    wp_ap_needs_B34 n x1 x2 (1 : Int32) q3.2
  else
    wp_ap_needs_B34 n x1 x2 (0 : Int32) q3.2
  else some (q2.1, 0, q2.2.2)
set_option maxRecDepth 100000 in
set_option maxHeartbeats 4000000 in
theorem wp_ap_needs_B15_ok  {x1 : Int32} {x2 : Int32} {X : wt_X} {n : Nat} {res : Nat × Int32 × wt_St} (hE : wt_Ok X prog_1_method_12_code 3 "WornType" 7 8) (hR : wt_RtX X (some .int) 8 res.1 (some res.2.1) res.2.2) (hD : ∀ i, i < 108 → wt_dom (wt_xw X) i)  {σ : wt_St} {y0 : Int32} (h : wp_ap_needs_B15 n x1 x2 y0 σ = some res) : wt_V X 0 σ 15 [some (.ref (wt_ad (wt_xw X) 0)), some (.int x1), some (.int x2)] [.int y0] := by
  unfold wp_ap_needs_B15 at h
  obtain ⟨q2, hq2, h⟩ := wt_bi h
  refine wt_callSXv (mc := 8) (rt0 := (some .int)) hE [.int y0] wt_ld_ap_112 wt_ya_ap_refuse (wp_ap_refuse_ok hR.2.2.2 hq2) (by omega) rfl rfl (Nat.le_of_ble_eq_true rfl) (by decide) (by decide) wp_ap_needs_d15 (fun he => ?_) (fun he => ?_)
  · have h := wt_in he h
    cases h
    exact ⟨_, hR⟩
  have h := wt_ip he h
  refine wt_aload_n hE wp_ap_needs_d18 rfl ?_
  refine wt_getr hE (r := 34) wt_lf_ap_39 (hD 0 (Nat.le_of_ble_eq_true rfl)) wt_L0 rfl wp_ap_needs_d19 ?_
  refine wt_iload_n hE wp_ap_needs_d22 rfl ?_
  obtain ⟨q3, hq3, h⟩ := wt_bi h
  refine wt_callVi hE [.int x1] wt_lm_ap_244 wt_ya_tx_has (wp_tx_has_ok hD hq3) (by omega) (hD 34 (Nat.le_of_ble_eq_true rfl)) wt_L34 rfl rfl rfl (Nat.le_of_ble_eq_true rfl) (by decide) wp_ap_needs_d23 (fun hbq3 => ?_)
  refine wt_if_ne hE 33 wp_ap_needs_d26 rfl (fun c4 => ?_) (fun c4 => ?_)
  · have h := wt_in c4 h
    refine wt_iconst hE (0 : Int32) wp_ap_needs_d33 wt_ci_0 ?_
    exact wp_ap_needs_B34_ok hE hR hD h
  · have h := wt_ip c4 h
    refine wt_iconst hE (1 : Int32) wp_ap_needs_d29 wt_ci_1 ?_
    refine wt_goto hE 34 wp_ap_needs_d30 rfl ?_
    exact wp_ap_needs_B34_ok hE hR hD h
noncomputable def wp_ap_needs_B10 (n : Nat) (x1 : Int32) (x2 : Int32) (σ : wt_St) : Option (Nat × Int32 × wt_St) :=
  wp_ap_needs_B15 n x1 x2 (1 : Int32) σ
set_option maxRecDepth 100000 in
set_option maxHeartbeats 4000000 in
theorem wp_ap_needs_B10_ok  {x1 : Int32} {x2 : Int32} {X : wt_X} {n : Nat} {res : Nat × Int32 × wt_St} (hE : wt_Ok X prog_1_method_12_code 3 "WornType" 7 8) (hR : wt_RtX X (some .int) 8 res.1 (some res.2.1) res.2.2) (hD : ∀ i, i < 108 → wt_dom (wt_xw X) i)  {σ : wt_St} (h : wp_ap_needs_B10 n x1 x2 σ = some res) : wt_V X 0 σ 10 [some (.ref (wt_ad (wt_xw X) 0)), some (.int x1), some (.int x2)] [] := by
  unfold wp_ap_needs_B10 at h
  refine wt_iconst hE (1 : Int32) wp_ap_needs_d10 wt_ci_1 ?_
  refine wt_goto hE 15 wp_ap_needs_d11 rfl ?_
  exact wp_ap_needs_B15_ok hE hR hD h
noncomputable def wp_ap_needs (n : Nat) (x1 : Int32) (x2 : Int32) (σ : wt_St) : Option (Nat × Int32 × wt_St) :=
  if x2 < 0 then
    wp_ap_needs_B10 n x1 x2 σ
  else
    if x2 < (26 : Int32) then
      wp_ap_needs_B15 n x1 x2 (0 : Int32) σ
    else
      wp_ap_needs_B10 n x1 x2 σ
set_option maxRecDepth 100000 in
set_option maxHeartbeats 4000000 in
theorem wp_ap_needs_ok {l : Launch} (htr : l.stackTraces = false) {w : wt_E} {n : Nat} {x1 : Int32} {x2 : Int32} (hD : ∀ i, i < 108 → wt_dom w i) {σ : wt_St} {q : Nat × Int32 × wt_St} (h : wp_ap_needs n x1 x2 σ = some q) : wt_CtrX l w wt_y_ap_needs prog_1_method_12_code 3 (some .int) 7 8 [.ref (wt_ad w 0), .int x1, .int x2] σ q.1 (some q.2.1) q.2.2 := by
  refine wt_ctrX htr wt_pl_ap_needs rfl (Nat.le_of_ble_eq_true rfl) [some (.ref (wt_ad w 0)), some (.int x1), some (.int x2)] rfl ?_
  intro X hXl hXw hE hR
  subst hXl
  subst hXw
  have hE : wt_Ok X prog_1_method_12_code 3 "WornType" 7 8 := hE
  unfold wp_ap_needs at h
  refine wt_iload_n hE wp_ap_needs_d0 rfl ?_
  refine wt_if_lt hE 10 wp_ap_needs_d1 rfl (fun c1 => ?_) (fun c1 => ?_)
  · have h := wt_ip c1 h
    exact wp_ap_needs_B10_ok hE hR hD h
  · have h := wt_in c1 h
    refine wt_iload_n hE wp_ap_needs_d4 rfl ?_
    refine wt_bipush hE (26 : Int32) wp_ap_needs_d5 wt_cb_26 ?_
    refine wt_icmp_lt hE 14 wp_ap_needs_d7 rfl (fun c7 => ?_) (fun c7 => ?_)
    · have h := wt_ip c7 h
      refine wt_iconst hE (0 : Int32) wp_ap_needs_d14 wt_ci_0 ?_
      exact wp_ap_needs_B15_ok hE hR hD h
    · have h := wt_in c7 h
      exact wp_ap_needs_B10_ok hE hR hD h
def wb42thm_prog_1_method_19_code_r3 : List (List Nat) := [191] :: []
def wb42thm_prog_1_method_19_code_r2 : List (List Nat) := [172, 42, 180, 0, 68, 27, 182, 1, 25, 172, 42, 180, 0, 68, 27, 182, 1, 28, 172, 187, 0, 167, 89, 19, 1, 31, 183, 0, 171] :: wb42thm_prog_1_method_19_code_r3
def wb42thm_prog_1_method_19_code_r1 : List (List Nat) := [42, 180, 0, 46, 180, 1, 19, 27, 184, 0, 193, 172, 42, 180, 0, 68, 27, 182, 1, 13, 172, 42, 180, 0, 68, 27, 182, 1, 22] :: wb42thm_prog_1_method_19_code_r2
def wb42thm_prog_1_method_19_code_r0 : List (List Nat) := [42, 180, 0, 68, 27, 182, 1, 7, 154, 0, 7, 4, 167, 0, 4, 3, 184, 0, 219, 28, 170, 0, 0, 0, 0, 0, 0, 84, 0, 0, 0, 0, 0, 0, 0, 4, 0, 0, 0, 36, 0, 0, 0, 48, 0, 0, 0, 57, 0, 0, 0, 66, 0, 0, 0, 75] :: wb42thm_prog_1_method_19_code_r1
set_option maxRecDepth 100000 in
theorem wb42thm_prog_1_method_19_code_c0 : wt_cs prog_1_method_19_code 0 wb42thm_prog_1_method_19_code_r0 := wt_cs_of (by decide +kernel)
theorem wb42thm_prog_1_method_19_code_c1 : wt_cs prog_1_method_19_code 56 wb42thm_prog_1_method_19_code_r1 := wt_cs_tl (m := 56) wb42thm_prog_1_method_19_code_c0 rfl rfl
theorem wb42thm_prog_1_method_19_code_c2 : wt_cs prog_1_method_19_code 85 wb42thm_prog_1_method_19_code_r2 := wt_cs_tl (m := 29) wb42thm_prog_1_method_19_code_c1 rfl rfl
theorem wb42thm_prog_1_method_19_code_c3 : wt_cs prog_1_method_19_code 114 wb42thm_prog_1_method_19_code_r3 := wt_cs_tl (m := 29) wb42thm_prog_1_method_19_code_c2 rfl rfl
theorem wp_ap_page_d0 : decode prog_1_method_19_code 0 = .ok (.aload_n 0, 1) := wt_op42 wb42thm_prog_1_method_19_code_c0 0 rfl rfl
theorem wp_ap_page_d1 : decode prog_1_method_19_code 1 = .ok (.getfield 68, 3) := wt_op180 wb42thm_prog_1_method_19_code_c0 1 rfl rfl rfl
theorem wp_ap_page_d4 : decode prog_1_method_19_code 4 = .ok (.iload_n 1, 1) := wt_op27 wb42thm_prog_1_method_19_code_c0 4 rfl rfl
theorem wp_ap_page_d5 : decode prog_1_method_19_code 5 = .ok (.invokevirtual 263, 3) := wt_op182 wb42thm_prog_1_method_19_code_c0 5 rfl rfl rfl
theorem wp_ap_page_d8 : decode prog_1_method_19_code 8 = .ok (.ifCond .ne 7, 3) := wt_op154 wb42thm_prog_1_method_19_code_c0 8 rfl rfl rfl
theorem wp_ap_page_d11 : decode prog_1_method_19_code 11 = .ok (.iconst 1, 1) := wt_op4 wb42thm_prog_1_method_19_code_c0 11 rfl rfl
theorem wp_ap_page_d12 : decode prog_1_method_19_code 12 = .ok (.goto 4, 3) := wt_op167 wb42thm_prog_1_method_19_code_c0 12 rfl rfl rfl
theorem wp_ap_page_d15 : decode prog_1_method_19_code 15 = .ok (.iconst 0, 1) := wt_op3 wb42thm_prog_1_method_19_code_c0 15 rfl rfl
theorem wp_ap_page_d16 : decode prog_1_method_19_code 16 = .ok (.invokestatic 219, 3) := wt_op184 wb42thm_prog_1_method_19_code_c0 16 rfl rfl rfl
theorem wp_ap_page_d19 : decode prog_1_method_19_code 19 = .ok (.iload_n 2, 1) := wt_op28 wb42thm_prog_1_method_19_code_c0 19 rfl rfl
theorem wp_ap_page_d20 : decode prog_1_method_19_code 20 = .ok (.tableswitch 84 0 4 #[36, 48, 57, 66, 75], 36) := by decide +kernel
theorem wp_ap_page_d56 : decode prog_1_method_19_code 56 = .ok (.aload_n 0, 1) := wt_op42 wb42thm_prog_1_method_19_code_c1 0 rfl rfl
theorem wp_ap_page_d57 : decode prog_1_method_19_code 57 = .ok (.getfield 46, 3) := wt_op180 wb42thm_prog_1_method_19_code_c1 1 rfl rfl rfl
theorem wp_ap_page_d60 : decode prog_1_method_19_code 60 = .ok (.getfield 275, 3) := wt_op180 wb42thm_prog_1_method_19_code_c1 4 rfl rfl rfl
theorem wp_ap_page_d63 : decode prog_1_method_19_code 63 = .ok (.iload_n 1, 1) := wt_op27 wb42thm_prog_1_method_19_code_c1 7 rfl rfl
theorem wp_ap_page_d64 : decode prog_1_method_19_code 64 = .ok (.invokestatic 193, 3) := wt_op184 wb42thm_prog_1_method_19_code_c1 8 rfl rfl rfl
theorem wp_ap_page_d67 : decode prog_1_method_19_code 67 = .ok (.ireturn, 1) := wt_op172 wb42thm_prog_1_method_19_code_c1 11 rfl rfl
theorem wp_ap_page_d68 : decode prog_1_method_19_code 68 = .ok (.aload_n 0, 1) := wt_op42 wb42thm_prog_1_method_19_code_c1 12 rfl rfl
theorem wp_ap_page_d69 : decode prog_1_method_19_code 69 = .ok (.getfield 68, 3) := wt_op180 wb42thm_prog_1_method_19_code_c1 13 rfl rfl rfl
theorem wp_ap_page_d72 : decode prog_1_method_19_code 72 = .ok (.iload_n 1, 1) := wt_op27 wb42thm_prog_1_method_19_code_c1 16 rfl rfl
theorem wp_ap_page_d73 : decode prog_1_method_19_code 73 = .ok (.invokevirtual 269, 3) := wt_op182 wb42thm_prog_1_method_19_code_c1 17 rfl rfl rfl
theorem wp_ap_page_d76 : decode prog_1_method_19_code 76 = .ok (.ireturn, 1) := wt_op172 wb42thm_prog_1_method_19_code_c1 20 rfl rfl
theorem wp_ap_page_d77 : decode prog_1_method_19_code 77 = .ok (.aload_n 0, 1) := wt_op42 wb42thm_prog_1_method_19_code_c1 21 rfl rfl
theorem wp_ap_page_d78 : decode prog_1_method_19_code 78 = .ok (.getfield 68, 3) := wt_op180 wb42thm_prog_1_method_19_code_c1 22 rfl rfl rfl
theorem wp_ap_page_d81 : decode prog_1_method_19_code 81 = .ok (.iload_n 1, 1) := wt_op27 wb42thm_prog_1_method_19_code_c1 25 rfl rfl
theorem wp_ap_page_d82 : decode prog_1_method_19_code 82 = .ok (.invokevirtual 278, 3) := wt_op182 wb42thm_prog_1_method_19_code_c1 26 rfl rfl rfl
theorem wp_ap_page_d85 : decode prog_1_method_19_code 85 = .ok (.ireturn, 1) := wt_op172 wb42thm_prog_1_method_19_code_c2 0 rfl rfl
theorem wp_ap_page_d86 : decode prog_1_method_19_code 86 = .ok (.aload_n 0, 1) := wt_op42 wb42thm_prog_1_method_19_code_c2 1 rfl rfl
theorem wp_ap_page_d87 : decode prog_1_method_19_code 87 = .ok (.getfield 68, 3) := wt_op180 wb42thm_prog_1_method_19_code_c2 2 rfl rfl rfl
theorem wp_ap_page_d90 : decode prog_1_method_19_code 90 = .ok (.iload_n 1, 1) := wt_op27 wb42thm_prog_1_method_19_code_c2 5 rfl rfl
theorem wp_ap_page_d91 : decode prog_1_method_19_code 91 = .ok (.invokevirtual 281, 3) := wt_op182 wb42thm_prog_1_method_19_code_c2 6 rfl rfl rfl
theorem wp_ap_page_d94 : decode prog_1_method_19_code 94 = .ok (.ireturn, 1) := wt_op172 wb42thm_prog_1_method_19_code_c2 9 rfl rfl
theorem wp_ap_page_d95 : decode prog_1_method_19_code 95 = .ok (.aload_n 0, 1) := wt_op42 wb42thm_prog_1_method_19_code_c2 10 rfl rfl
theorem wp_ap_page_d96 : decode prog_1_method_19_code 96 = .ok (.getfield 68, 3) := wt_op180 wb42thm_prog_1_method_19_code_c2 11 rfl rfl rfl
theorem wp_ap_page_d99 : decode prog_1_method_19_code 99 = .ok (.iload_n 1, 1) := wt_op27 wb42thm_prog_1_method_19_code_c2 14 rfl rfl
theorem wp_ap_page_d100 : decode prog_1_method_19_code 100 = .ok (.invokevirtual 284, 3) := wt_op182 wb42thm_prog_1_method_19_code_c2 15 rfl rfl rfl
theorem wp_ap_page_d103 : decode prog_1_method_19_code 103 = .ok (.ireturn, 1) := wt_op172 wb42thm_prog_1_method_19_code_c2 18 rfl rfl
theorem wp_ap_page_d104 : decode prog_1_method_19_code 104 = .ok (.new 167, 3) := wt_op187 wb42thm_prog_1_method_19_code_c2 19 rfl rfl rfl
theorem wp_ap_page_d107 : decode prog_1_method_19_code 107 = .ok (.dup, 1) := wt_op89 wb42thm_prog_1_method_19_code_c2 22 rfl rfl
theorem wp_ap_page_d108 : decode prog_1_method_19_code 108 = .ok (.ldc_w 287, 3) := wt_op19 wb42thm_prog_1_method_19_code_c2 23 rfl rfl rfl
theorem wp_ap_page_d111 : decode prog_1_method_19_code 111 = .ok (.invokespecial 171, 3) := wt_op183 wb42thm_prog_1_method_19_code_c2 26 rfl rfl rfl
theorem wp_ap_page_d114 : decode prog_1_method_19_code 114 = .ok (.athrow, 1) := wt_op191 wb42thm_prog_1_method_19_code_c3 0 rfl rfl
noncomputable def wp_ap_page_B16 (n : Nat) (x1 : Int32) (x2 : Int32) (y0 : Int32) (σ : wt_St) : Option (Nat × Int32 × wt_St) :=
  (wp_ap_miss n y0 σ).bind fun q3 =>
  if q3.1 = 0 then
  if x2 = (0 : Int32) then
    (wp_ap_look n 43 x1 q3.2.2).bind fun q5 =>
    some (0, q5.1, q5.2)
  else if x2 = (1 : Int32) then
    (wp_pg_piecesOn n x1 q3.2.2).bind fun q7 =>
    some (0, q7.1, q7.2)
  else if x2 = (2 : Int32) then
    (wp_pg_faintOn n x1 q3.2.2).bind fun q9 =>
    some (0, q9.1, q9.2)
  else if x2 = (3 : Int32) then
    (wp_pg_leastLeftOn n x1 q3.2.2).bind fun q11 =>
    some (0, q11.1, q11.2)
  else if x2 = (4 : Int32) then
    (wp_pg_misreadOn n x1 q3.2.2).bind fun q13 =>
    some (0, q13.1, q13.2)
  else some (1, 0, q3.2.2)
  else some (q3.1, 0, q3.2.2)
set_option maxRecDepth 100000 in
set_option maxHeartbeats 4000000 in
theorem wp_ap_page_B16_ok  {x1 : Int32} {x2 : Int32} {X : wt_X} {n : Nat} {res : Nat × Int32 × wt_St} (hE : wt_Ok X prog_1_method_19_code 3 "WornType" 7 8) (hR : wt_RtX X (some .int) 8 res.1 (some res.2.1) res.2.2) (hD : ∀ i, i < 108 → wt_dom (wt_xw X) i)  {σ : wt_St} {y0 : Int32} (h : wp_ap_page_B16 n x1 x2 y0 σ = some res) : wt_V X 0 σ 16 [some (.ref (wt_ad (wt_xw X) 0)), some (.int x1), some (.int x2)] [.int y0] := by
  unfold wp_ap_page_B16 at h
  obtain ⟨q3, hq3, h⟩ := wt_bi h
  refine wt_callSXv (mc := 8) (rt0 := (some .int)) hE [.int y0] wt_ld_ap_219 wt_ya_ap_miss (wp_ap_miss_ok hR.2.2.2 hq3) (by omega) rfl rfl (Nat.le_of_ble_eq_true rfl) (by decide) (by decide) wp_ap_page_d16 (fun he => ?_) (fun he => ?_)
  · have h := wt_in he h
    cases h
    exact ⟨_, hR⟩
  have h := wt_ip he h
  refine wt_iload_n hE wp_ap_page_d19 rfl ?_
  by_cases c4 : x2 = (0 : Int32)
  · have h := wt_ip c4 h
    refine wt_tsIn hE (off := 36) 56 c4 wp_ap_page_d20 (by decide) (by decide) (by decide) rfl ?_
    refine wt_aload_n hE wp_ap_page_d56 rfl ?_
    refine wt_getr hE (r := 39) wt_lf_ap_46 (hD 0 (Nat.le_of_ble_eq_true rfl)) wt_L0 rfl wp_ap_page_d57 ?_
    refine wt_getr hE (r := 43) wt_lf_ap_275 (hD 39 (Nat.le_of_ble_eq_true rfl)) wt_L39 rfl wp_ap_page_d60 ?_
    refine wt_iload_n hE wp_ap_page_d63 rfl ?_
    obtain ⟨q5, hq5, h⟩ := wt_bi h
    refine wt_callSi hE [.ref (wt_ad (wt_xw X) 43), .int x1] wt_lm_ap_193 wt_ya_ap_look (wp_ap_look_ok (wt_lnE wt_L43) (hD 43 (Nat.le_of_ble_eq_true rfl)) hq5) (by omega) rfl rfl (Nat.le_of_ble_eq_true rfl) (by decide) wp_ap_page_d64 (fun hbq5 => ?_)
    cases h
    exact wt_iretX hE hR (by decide) wp_ap_page_d67
  have h := wt_in c4 h
  by_cases c6 : x2 = (1 : Int32)
  · have h := wt_ip c6 h
    refine wt_tsIn hE (off := 48) 68 c6 wp_ap_page_d20 (by decide) (by decide) (by decide) rfl ?_
    refine wt_aload_n hE wp_ap_page_d68 rfl ?_
    refine wt_getr hE (r := 77) wt_lf_ap_68 (hD 0 (Nat.le_of_ble_eq_true rfl)) wt_L0 rfl wp_ap_page_d69 ?_
    refine wt_iload_n hE wp_ap_page_d72 rfl ?_
    obtain ⟨q7, hq7, h⟩ := wt_bi h
    refine wt_callVi hE [.int x1] wt_lm_ap_269 wt_ya_pg_piecesOn (wp_pg_piecesOn_ok hD hq7) (by omega) (hD 77 (Nat.le_of_ble_eq_true rfl)) wt_L77 rfl rfl rfl (Nat.le_of_ble_eq_true rfl) (by decide) wp_ap_page_d73 (fun hbq7 => ?_)
    cases h
    exact wt_iretX hE hR (by decide) wp_ap_page_d76
  have h := wt_in c6 h
  by_cases c8 : x2 = (2 : Int32)
  · have h := wt_ip c8 h
    refine wt_tsIn hE (off := 57) 77 c8 wp_ap_page_d20 (by decide) (by decide) (by decide) rfl ?_
    refine wt_aload_n hE wp_ap_page_d77 rfl ?_
    refine wt_getr hE (r := 77) wt_lf_ap_68 (hD 0 (Nat.le_of_ble_eq_true rfl)) wt_L0 rfl wp_ap_page_d78 ?_
    refine wt_iload_n hE wp_ap_page_d81 rfl ?_
    obtain ⟨q9, hq9, h⟩ := wt_bi h
    refine wt_callVi hE [.int x1] wt_lm_ap_278 wt_ya_pg_faintOn (wp_pg_faintOn_ok hD hq9) (by omega) (hD 77 (Nat.le_of_ble_eq_true rfl)) wt_L77 rfl rfl rfl (Nat.le_of_ble_eq_true rfl) (by decide) wp_ap_page_d82 (fun hbq9 => ?_)
    cases h
    exact wt_iretX hE hR (by decide) wp_ap_page_d85
  have h := wt_in c8 h
  by_cases c10 : x2 = (3 : Int32)
  · have h := wt_ip c10 h
    refine wt_tsIn hE (off := 66) 86 c10 wp_ap_page_d20 (by decide) (by decide) (by decide) rfl ?_
    refine wt_aload_n hE wp_ap_page_d86 rfl ?_
    refine wt_getr hE (r := 77) wt_lf_ap_68 (hD 0 (Nat.le_of_ble_eq_true rfl)) wt_L0 rfl wp_ap_page_d87 ?_
    refine wt_iload_n hE wp_ap_page_d90 rfl ?_
    obtain ⟨q11, hq11, h⟩ := wt_bi h
    refine wt_callVi hE [.int x1] wt_lm_ap_281 wt_ya_pg_leastLeftOn (wp_pg_leastLeftOn_ok hD hq11) (by omega) (hD 77 (Nat.le_of_ble_eq_true rfl)) wt_L77 rfl rfl rfl (Nat.le_of_ble_eq_true rfl) (by decide) wp_ap_page_d91 (fun hbq11 => ?_)
    cases h
    exact wt_iretX hE hR (by decide) wp_ap_page_d94
  have h := wt_in c10 h
  by_cases c12 : x2 = (4 : Int32)
  · have h := wt_ip c12 h
    refine wt_tsIn hE (off := 75) 95 c12 wp_ap_page_d20 (by decide) (by decide) (by decide) rfl ?_
    refine wt_aload_n hE wp_ap_page_d95 rfl ?_
    refine wt_getr hE (r := 77) wt_lf_ap_68 (hD 0 (Nat.le_of_ble_eq_true rfl)) wt_L0 rfl wp_ap_page_d96 ?_
    refine wt_iload_n hE wp_ap_page_d99 rfl ?_
    obtain ⟨q13, hq13, h⟩ := wt_bi h
    refine wt_callVi hE [.int x1] wt_lm_ap_284 wt_ya_pg_misreadOn (wp_pg_misreadOn_ok hD hq13) (by omega) (hD 77 (Nat.le_of_ble_eq_true rfl)) wt_L77 rfl rfl rfl (Nat.le_of_ble_eq_true rfl) (by decide) wp_ap_page_d100 (fun hbq13 => ?_)
    cases h
    exact wt_iretX hE hR (by decide) wp_ap_page_d103
  have h := wt_in c12 h
  refine wt_tsOut hE 5 104 rfl (by decide) (fun j hj => ?_) wp_ap_page_d20 rfl ?_
  · rcases (show j = 0 ∨ j = 1 ∨ j = 2 ∨ j = 3 ∨ j = 4 by omega) with rfl | rfl | rfl | rfl | rfl
    · exact c4
    · exact c6
    · exact c8
    · exact c10
    · exact c12
  cases h
  exact wt_thrIW hE hR 4 rfl (by omega) (by decide) (by decide) (Nat.le_of_ble_eq_true rfl) wp_ap_page_d104 wp_ap_page_d107 wp_ap_page_d108 wp_ap_page_d111 wp_ap_page_d114
noncomputable def wp_ap_page (n : Nat) (x1 : Int32) (x2 : Int32) (σ : wt_St) : Option (Nat × Int32 × wt_St) :=
  (wp_pg_stands n x1 σ).bind fun q1 =>
  if q1.1 = 0 then
    wp_ap_page_B16 n x1 x2 (1 : Int32) q1.2
  else
    wp_ap_page_B16 n x1 x2 (0 : Int32) q1.2
set_option maxRecDepth 100000 in
set_option maxHeartbeats 4000000 in
theorem wp_ap_page_ok {l : Launch} (htr : l.stackTraces = false) {w : wt_E} {n : Nat} {x1 : Int32} {x2 : Int32} (hD : ∀ i, i < 108 → wt_dom w i) {σ : wt_St} {q : Nat × Int32 × wt_St} (h : wp_ap_page n x1 x2 σ = some q) : wt_CtrX l w wt_y_ap_page prog_1_method_19_code 3 (some .int) 7 8 [.ref (wt_ad w 0), .int x1, .int x2] σ q.1 (some q.2.1) q.2.2 := by
  refine wt_ctrX htr wt_pl_ap_page rfl (Nat.le_of_ble_eq_true rfl) [some (.ref (wt_ad w 0)), some (.int x1), some (.int x2)] rfl ?_
  intro X hXl hXw hE hR
  subst hXl
  subst hXw
  have hE : wt_Ok X prog_1_method_19_code 3 "WornType" 7 8 := hE
  unfold wp_ap_page at h
  refine wt_aload_n hE wp_ap_page_d0 rfl ?_
  refine wt_getr hE (r := 77) wt_lf_ap_68 (hD 0 (Nat.le_of_ble_eq_true rfl)) wt_L0 rfl wp_ap_page_d1 ?_
  refine wt_iload_n hE wp_ap_page_d4 rfl ?_
  obtain ⟨q1, hq1, h⟩ := wt_bi h
  refine wt_callVi hE [.int x1] wt_lm_ap_263 wt_ya_pg_stands (wp_pg_stands_ok hD hq1) (by omega) (hD 77 (Nat.le_of_ble_eq_true rfl)) wt_L77 rfl rfl rfl (Nat.le_of_ble_eq_true rfl) (by decide) wp_ap_page_d5 (fun hbq1 => ?_)
  refine wt_if_ne hE 15 wp_ap_page_d8 rfl (fun c2 => ?_) (fun c2 => ?_)
  · have h := wt_in c2 h
    refine wt_iconst hE (0 : Int32) wp_ap_page_d15 wt_ci_0 ?_
    exact wp_ap_page_B16_ok hE hR hD h
  · have h := wt_ip c2 h
    refine wt_iconst hE (1 : Int32) wp_ap_page_d11 wt_ci_1 ?_
    refine wt_goto hE 16 wp_ap_page_d12 rfl ?_
    exact wp_ap_page_B16_ok hE hR hD h
def wb42thm_prog_1_method_9_code_r3 : List (List Nat) := [104, 28, 96, 184, 0, 193, 172] :: []
def wb42thm_prog_1_method_9_code_r2 : List (List Nat) := [3, 184, 0, 112, 29, 154, 0, 13, 42, 180, 0, 46, 180, 0, 210, 167, 0, 10, 42, 180, 0, 46, 180, 0, 213, 27, 16, 12] :: wb42thm_prog_1_method_9_code_r3
def wb42thm_prog_1_method_9_code_r1 : List (List Nat) := [182, 0, 174, 161, 0, 13, 187, 0, 205, 89, 18, 207, 183, 0, 209, 191, 29, 155, 0, 8, 29, 4, 164, 0, 7, 4, 167, 0, 4] :: wb42thm_prog_1_method_9_code_r2
def wb42thm_prog_1_method_9_code_r0 : List (List Nat) := [27, 155, 0, 9, 27, 16, 26, 161, 0, 7, 4, 167, 0, 4, 3, 184, 0, 112, 28, 155, 0, 15, 28, 42, 180, 0, 59, 27] :: wb42thm_prog_1_method_9_code_r1
set_option maxRecDepth 100000 in
theorem wb42thm_prog_1_method_9_code_c0 : wt_cs prog_1_method_9_code 0 wb42thm_prog_1_method_9_code_r0 := wt_cs_of (by decide +kernel)
theorem wb42thm_prog_1_method_9_code_c1 : wt_cs prog_1_method_9_code 28 wb42thm_prog_1_method_9_code_r1 := wt_cs_tl (m := 28) wb42thm_prog_1_method_9_code_c0 rfl rfl
theorem wb42thm_prog_1_method_9_code_c2 : wt_cs prog_1_method_9_code 57 wb42thm_prog_1_method_9_code_r2 := wt_cs_tl (m := 29) wb42thm_prog_1_method_9_code_c1 rfl rfl
theorem wb42thm_prog_1_method_9_code_c3 : wt_cs prog_1_method_9_code 85 wb42thm_prog_1_method_9_code_r3 := wt_cs_tl (m := 28) wb42thm_prog_1_method_9_code_c2 rfl rfl
theorem wp_ap_piece_d0 : decode prog_1_method_9_code 0 = .ok (.iload_n 1, 1) := wt_op27 wb42thm_prog_1_method_9_code_c0 0 rfl rfl
theorem wp_ap_piece_d1 : decode prog_1_method_9_code 1 = .ok (.ifCond .lt 9, 3) := wt_op155 wb42thm_prog_1_method_9_code_c0 1 rfl rfl rfl
theorem wp_ap_piece_d4 : decode prog_1_method_9_code 4 = .ok (.iload_n 1, 1) := wt_op27 wb42thm_prog_1_method_9_code_c0 4 rfl rfl
theorem wp_ap_piece_d5 : decode prog_1_method_9_code 5 = .ok (.bipush 26, 2) := wt_op16 wb42thm_prog_1_method_9_code_c0 5 rfl rfl rfl
theorem wp_ap_piece_d7 : decode prog_1_method_9_code 7 = .ok (.if_icmp .lt 7, 3) := wt_op161 wb42thm_prog_1_method_9_code_c0 7 rfl rfl rfl
theorem wp_ap_piece_d10 : decode prog_1_method_9_code 10 = .ok (.iconst 1, 1) := wt_op4 wb42thm_prog_1_method_9_code_c0 10 rfl rfl
theorem wp_ap_piece_d11 : decode prog_1_method_9_code 11 = .ok (.goto 4, 3) := wt_op167 wb42thm_prog_1_method_9_code_c0 11 rfl rfl rfl
theorem wp_ap_piece_d14 : decode prog_1_method_9_code 14 = .ok (.iconst 0, 1) := wt_op3 wb42thm_prog_1_method_9_code_c0 14 rfl rfl
theorem wp_ap_piece_d15 : decode prog_1_method_9_code 15 = .ok (.invokestatic 112, 3) := wt_op184 wb42thm_prog_1_method_9_code_c0 15 rfl rfl rfl
theorem wp_ap_piece_d18 : decode prog_1_method_9_code 18 = .ok (.iload_n 2, 1) := wt_op28 wb42thm_prog_1_method_9_code_c0 18 rfl rfl
theorem wp_ap_piece_d19 : decode prog_1_method_9_code 19 = .ok (.ifCond .lt 15, 3) := wt_op155 wb42thm_prog_1_method_9_code_c0 19 rfl rfl rfl
theorem wp_ap_piece_d22 : decode prog_1_method_9_code 22 = .ok (.iload_n 2, 1) := wt_op28 wb42thm_prog_1_method_9_code_c0 22 rfl rfl
theorem wp_ap_piece_d23 : decode prog_1_method_9_code 23 = .ok (.aload_n 0, 1) := wt_op42 wb42thm_prog_1_method_9_code_c0 23 rfl rfl
theorem wp_ap_piece_d24 : decode prog_1_method_9_code 24 = .ok (.getfield 59, 3) := wt_op180 wb42thm_prog_1_method_9_code_c0 24 rfl rfl rfl
theorem wp_ap_piece_d27 : decode prog_1_method_9_code 27 = .ok (.iload_n 1, 1) := wt_op27 wb42thm_prog_1_method_9_code_c0 27 rfl rfl
theorem wp_ap_piece_d28 : decode prog_1_method_9_code 28 = .ok (.invokevirtual 174, 3) := wt_op182 wb42thm_prog_1_method_9_code_c1 0 rfl rfl rfl
theorem wp_ap_piece_d31 : decode prog_1_method_9_code 31 = .ok (.if_icmp .lt 13, 3) := wt_op161 wb42thm_prog_1_method_9_code_c1 3 rfl rfl rfl
theorem wp_ap_piece_d34 : decode prog_1_method_9_code 34 = .ok (.new 205, 3) := wt_op187 wb42thm_prog_1_method_9_code_c1 6 rfl rfl rfl
theorem wp_ap_piece_d37 : decode prog_1_method_9_code 37 = .ok (.dup, 1) := wt_op89 wb42thm_prog_1_method_9_code_c1 9 rfl rfl
theorem wp_ap_piece_d38 : decode prog_1_method_9_code 38 = .ok (.ldc 207, 2) := wt_op18 wb42thm_prog_1_method_9_code_c1 10 rfl rfl
theorem wp_ap_piece_d40 : decode prog_1_method_9_code 40 = .ok (.invokespecial 209, 3) := wt_op183 wb42thm_prog_1_method_9_code_c1 12 rfl rfl rfl
theorem wp_ap_piece_d43 : decode prog_1_method_9_code 43 = .ok (.athrow, 1) := wt_op191 wb42thm_prog_1_method_9_code_c1 15 rfl rfl
theorem wp_ap_piece_d44 : decode prog_1_method_9_code 44 = .ok (.iload_n 3, 1) := wt_op29 wb42thm_prog_1_method_9_code_c1 16 rfl rfl
theorem wp_ap_piece_d45 : decode prog_1_method_9_code 45 = .ok (.ifCond .lt 8, 3) := wt_op155 wb42thm_prog_1_method_9_code_c1 17 rfl rfl rfl
theorem wp_ap_piece_d48 : decode prog_1_method_9_code 48 = .ok (.iload_n 3, 1) := wt_op29 wb42thm_prog_1_method_9_code_c1 20 rfl rfl
theorem wp_ap_piece_d49 : decode prog_1_method_9_code 49 = .ok (.iconst 1, 1) := wt_op4 wb42thm_prog_1_method_9_code_c1 21 rfl rfl
theorem wp_ap_piece_d50 : decode prog_1_method_9_code 50 = .ok (.if_icmp .le 7, 3) := wt_op164 wb42thm_prog_1_method_9_code_c1 22 rfl rfl rfl
theorem wp_ap_piece_d53 : decode prog_1_method_9_code 53 = .ok (.iconst 1, 1) := wt_op4 wb42thm_prog_1_method_9_code_c1 25 rfl rfl
theorem wp_ap_piece_d54 : decode prog_1_method_9_code 54 = .ok (.goto 4, 3) := wt_op167 wb42thm_prog_1_method_9_code_c1 26 rfl rfl rfl
theorem wp_ap_piece_d57 : decode prog_1_method_9_code 57 = .ok (.iconst 0, 1) := wt_op3 wb42thm_prog_1_method_9_code_c2 0 rfl rfl
theorem wp_ap_piece_d58 : decode prog_1_method_9_code 58 = .ok (.invokestatic 112, 3) := wt_op184 wb42thm_prog_1_method_9_code_c2 1 rfl rfl rfl
theorem wp_ap_piece_d61 : decode prog_1_method_9_code 61 = .ok (.iload_n 3, 1) := wt_op29 wb42thm_prog_1_method_9_code_c2 4 rfl rfl
theorem wp_ap_piece_d62 : decode prog_1_method_9_code 62 = .ok (.ifCond .ne 13, 3) := wt_op154 wb42thm_prog_1_method_9_code_c2 5 rfl rfl rfl
theorem wp_ap_piece_d65 : decode prog_1_method_9_code 65 = .ok (.aload_n 0, 1) := wt_op42 wb42thm_prog_1_method_9_code_c2 8 rfl rfl
theorem wp_ap_piece_d66 : decode prog_1_method_9_code 66 = .ok (.getfield 46, 3) := wt_op180 wb42thm_prog_1_method_9_code_c2 9 rfl rfl rfl
theorem wp_ap_piece_d69 : decode prog_1_method_9_code 69 = .ok (.getfield 210, 3) := wt_op180 wb42thm_prog_1_method_9_code_c2 12 rfl rfl rfl
theorem wp_ap_piece_d72 : decode prog_1_method_9_code 72 = .ok (.goto 10, 3) := wt_op167 wb42thm_prog_1_method_9_code_c2 15 rfl rfl rfl
theorem wp_ap_piece_d75 : decode prog_1_method_9_code 75 = .ok (.aload_n 0, 1) := wt_op42 wb42thm_prog_1_method_9_code_c2 18 rfl rfl
theorem wp_ap_piece_d76 : decode prog_1_method_9_code 76 = .ok (.getfield 46, 3) := wt_op180 wb42thm_prog_1_method_9_code_c2 19 rfl rfl rfl
theorem wp_ap_piece_d79 : decode prog_1_method_9_code 79 = .ok (.getfield 213, 3) := wt_op180 wb42thm_prog_1_method_9_code_c2 22 rfl rfl rfl
theorem wp_ap_piece_d82 : decode prog_1_method_9_code 82 = .ok (.iload_n 1, 1) := wt_op27 wb42thm_prog_1_method_9_code_c2 25 rfl rfl
theorem wp_ap_piece_d83 : decode prog_1_method_9_code 83 = .ok (.bipush 12, 2) := wt_op16 wb42thm_prog_1_method_9_code_c2 26 rfl rfl rfl
theorem wp_ap_piece_d85 : decode prog_1_method_9_code 85 = .ok (.imul, 1) := wt_op104 wb42thm_prog_1_method_9_code_c3 0 rfl rfl
theorem wp_ap_piece_d86 : decode prog_1_method_9_code 86 = .ok (.iload_n 2, 1) := wt_op28 wb42thm_prog_1_method_9_code_c3 1 rfl rfl
theorem wp_ap_piece_d87 : decode prog_1_method_9_code 87 = .ok (.iadd, 1) := wt_op96 wb42thm_prog_1_method_9_code_c3 2 rfl rfl
theorem wp_ap_piece_d88 : decode prog_1_method_9_code 88 = .ok (.invokestatic 193, 3) := wt_op184 wb42thm_prog_1_method_9_code_c3 3 rfl rfl rfl
theorem wp_ap_piece_d91 : decode prog_1_method_9_code 91 = .ok (.ireturn, 1) := wt_op172 wb42thm_prog_1_method_9_code_c3 6 rfl rfl
noncomputable def wp_ap_piece_B34 (n : Nat) (σ : wt_St) : Option (Nat × Int32 × wt_St) :=
  some (3, 0, σ)
set_option maxRecDepth 100000 in
set_option maxHeartbeats 4000000 in
theorem wp_ap_piece_B34_ok  {X : wt_X} {n : Nat} {res : Nat × Int32 × wt_St} (hE : wt_Ok X prog_1_method_9_code 4 "WornType" 7 8) (hR : wt_RtX X (some .int) 8 res.1 (some res.2.1) res.2.2) (hD : ∀ i, i < 108 → wt_dom (wt_xw X) i)  {σ : wt_St} (h : wp_ap_piece_B34 n σ = some res) : wt_V X 1 σ 34 [some (.ref (wt_ad (wt_xw X) 0)), none, none, none] [] := by
  unfold wp_ap_piece_B34 at h
  cases h
  exact wt_thrO hE hR 2 rfl (by omega) (by decide) (by decide) (Nat.le_of_ble_eq_true rfl) wp_ap_piece_d34 wp_ap_piece_d37 wp_ap_piece_d38 wp_ap_piece_d40 wp_ap_piece_d43
noncomputable def wp_ap_piece_B82 (n : Nat) (x1 : Int32) (x2 : Int32) (e0 : Nat) (σ : wt_St) : Option (Nat × Int32 × wt_St) :=
  (wp_ap_look n e0 ((x1 * (12 : Int32)) + x2) σ).bind fun q9 =>
  some (0, q9.1, q9.2)
set_option maxRecDepth 100000 in
set_option maxHeartbeats 4000000 in
theorem wp_ap_piece_B82_ok  {x1 : Int32} {x2 : Int32} {e0 : Nat} {X : wt_X} {n : Nat} {res : Nat × Int32 × wt_St} (hE : wt_Ok X prog_1_method_9_code 4 "WornType" 7 8) (hR : wt_RtX X (some .int) 8 res.1 (some res.2.1) res.2.2) (hD : ∀ i, i < 108 → wt_dom (wt_xw X) i)  (hA_e0 : wt_LAY[e0]? = some (0, 312, [])) (hd_e0 : wt_dom (wt_xw X) e0) {σ : wt_St} (h : wp_ap_piece_B82 n x1 x2 e0 σ = some res) : wt_V X 2 σ 82 [some (.ref (wt_ad (wt_xw X) 0)), some (.int x1), some (.int x2), none] [.ref (wt_ad (wt_xw X) e0)] := by
  unfold wp_ap_piece_B82 at h
  refine wt_iload_n hE wp_ap_piece_d82 rfl ?_
  refine wt_bipush hE (12 : Int32) wp_ap_piece_d83 wt_cb_12 ?_
  refine wt_imul hE wp_ap_piece_d85 ?_
  refine wt_iload_n hE wp_ap_piece_d86 rfl ?_
  refine wt_iadd hE wp_ap_piece_d87 ?_
  obtain ⟨q9, hq9, h⟩ := wt_bi h
  refine wt_callSi hE [.ref (wt_ad (wt_xw X) e0), .int ((x1 * (12 : Int32)) + x2)] wt_lm_ap_193 wt_ya_ap_look (wp_ap_look_ok (wt_lnE hA_e0) hd_e0 hq9) (by omega) rfl rfl (Nat.le_of_ble_eq_true rfl) (by decide) wp_ap_piece_d88 (fun hbq9 => ?_)
  cases h
  exact wt_iretX hE hR (by decide) wp_ap_piece_d91
noncomputable def wp_ap_piece_B58 (n : Nat) (x1 : Int32) (x2 : Int32) (x3 : Int32) (y0 : Int32) (σ : wt_St) : Option (Nat × Int32 × wt_St) :=
  (wp_ap_refuse n y0 σ).bind fun q7 =>
  if q7.1 = 0 then
  if x3 = 0 then
    wp_ap_piece_B82 n x1 x2 40 q7.2.2
  else
    wp_ap_piece_B82 n x1 x2 41 q7.2.2
  else some (q7.1, 0, q7.2.2)
set_option maxRecDepth 100000 in
set_option maxHeartbeats 4000000 in
theorem wp_ap_piece_B58_ok  {x1 : Int32} {x2 : Int32} {x3 : Int32} {X : wt_X} {n : Nat} {res : Nat × Int32 × wt_St} (hE : wt_Ok X prog_1_method_9_code 4 "WornType" 7 8) (hR : wt_RtX X (some .int) 8 res.1 (some res.2.1) res.2.2) (hD : ∀ i, i < 108 → wt_dom (wt_xw X) i)  {σ : wt_St} {y0 : Int32} (h : wp_ap_piece_B58 n x1 x2 x3 y0 σ = some res) : wt_V X 1 σ 58 [some (.ref (wt_ad (wt_xw X) 0)), some (.int x1), some (.int x2), some (.int x3)] [.int y0] := by
  unfold wp_ap_piece_B58 at h
  obtain ⟨q7, hq7, h⟩ := wt_bi h
  refine wt_callSXv (mc := 8) (rt0 := (some .int)) hE [.int y0] wt_ld_ap_112 wt_ya_ap_refuse (wp_ap_refuse_ok hR.2.2.2 hq7) (by omega) rfl rfl (Nat.le_of_ble_eq_true rfl) (by decide) (by decide) wp_ap_piece_d58 (fun he => ?_) (fun he => ?_)
  · have h := wt_in he h
    cases h
    exact ⟨_, hR⟩
  have h := wt_ip he h
  refine wt_iload_n hE wp_ap_piece_d61 rfl ?_
  refine wt_if_ne hE 75 wp_ap_piece_d62 rfl (fun c8 => ?_) (fun c8 => ?_)
  · have h := wt_in c8 h
    refine wt_aload_n hE wp_ap_piece_d75 rfl ?_
    refine wt_getr hE (r := 39) wt_lf_ap_46 (hD 0 (Nat.le_of_ble_eq_true rfl)) wt_L0 rfl wp_ap_piece_d76 ?_
    refine wt_getr hE (r := 41) wt_lf_ap_213 (hD 39 (Nat.le_of_ble_eq_true rfl)) wt_L39 rfl wp_ap_piece_d79 ?_
    refine wt_wk [true, true, true, false] rfl ?_
    exact wp_ap_piece_B82_ok hE hR hD wt_L41 (hD 41 (Nat.le_of_ble_eq_true rfl)) h
  · have h := wt_ip c8 h
    refine wt_aload_n hE wp_ap_piece_d65 rfl ?_
    refine wt_getr hE (r := 39) wt_lf_ap_46 (hD 0 (Nat.le_of_ble_eq_true rfl)) wt_L0 rfl wp_ap_piece_d66 ?_
    refine wt_getr hE (r := 40) wt_lf_ap_210 (hD 39 (Nat.le_of_ble_eq_true rfl)) wt_L39 rfl wp_ap_piece_d69 ?_
    refine wt_goto hE 82 wp_ap_piece_d72 rfl ?_
    refine wt_wk [true, true, true, false] rfl ?_
    exact wp_ap_piece_B82_ok hE hR hD wt_L40 (hD 40 (Nat.le_of_ble_eq_true rfl)) h
noncomputable def wp_ap_piece_B53 (n : Nat) (x1 : Int32) (x2 : Int32) (x3 : Int32) (σ : wt_St) : Option (Nat × Int32 × wt_St) :=
  wp_ap_piece_B58 n x1 x2 x3 (1 : Int32) σ
set_option maxRecDepth 100000 in
set_option maxHeartbeats 4000000 in
theorem wp_ap_piece_B53_ok  {x1 : Int32} {x2 : Int32} {x3 : Int32} {X : wt_X} {n : Nat} {res : Nat × Int32 × wt_St} (hE : wt_Ok X prog_1_method_9_code 4 "WornType" 7 8) (hR : wt_RtX X (some .int) 8 res.1 (some res.2.1) res.2.2) (hD : ∀ i, i < 108 → wt_dom (wt_xw X) i)  {σ : wt_St} (h : wp_ap_piece_B53 n x1 x2 x3 σ = some res) : wt_V X 1 σ 53 [some (.ref (wt_ad (wt_xw X) 0)), some (.int x1), some (.int x2), some (.int x3)] [] := by
  unfold wp_ap_piece_B53 at h
  refine wt_iconst hE (1 : Int32) wp_ap_piece_d53 wt_ci_1 ?_
  refine wt_goto hE 58 wp_ap_piece_d54 rfl ?_
  exact wp_ap_piece_B58_ok hE hR hD h
noncomputable def wp_ap_piece_B15 (n : Nat) (x1 : Int32) (x2 : Int32) (x3 : Int32) (y0 : Int32) (σ : wt_St) : Option (Nat × Int32 × wt_St) :=
  (wp_ap_refuse n y0 σ).bind fun q2 =>
  if q2.1 = 0 then
  if x2 < 0 then
    wp_ap_piece_B34 n q2.2.2
  else
    (wp_sk_pieces n x1 q2.2.2).bind fun q4 =>
    if x2 < q4.1 then
      if x3 < 0 then
        wp_ap_piece_B53 n x1 x2 x3 q4.2
      else
        if x3 ≤ (1 : Int32) then
          wp_ap_piece_B58 n x1 x2 x3 (0 : Int32) q4.2
        else
          wp_ap_piece_B53 n x1 x2 x3 q4.2
    else
      wp_ap_piece_B34 n q4.2
  else some (q2.1, 0, q2.2.2)
set_option maxRecDepth 100000 in
set_option maxHeartbeats 4000000 in
theorem wp_ap_piece_B15_ok  {x1 : Int32} {x2 : Int32} {x3 : Int32} {X : wt_X} {n : Nat} {res : Nat × Int32 × wt_St} (hE : wt_Ok X prog_1_method_9_code 4 "WornType" 7 8) (hR : wt_RtX X (some .int) 8 res.1 (some res.2.1) res.2.2) (hD : ∀ i, i < 108 → wt_dom (wt_xw X) i)  {σ : wt_St} {y0 : Int32} (h : wp_ap_piece_B15 n x1 x2 x3 y0 σ = some res) : wt_V X 0 σ 15 [some (.ref (wt_ad (wt_xw X) 0)), some (.int x1), some (.int x2), some (.int x3)] [.int y0] := by
  unfold wp_ap_piece_B15 at h
  obtain ⟨q2, hq2, h⟩ := wt_bi h
  refine wt_callSXv (mc := 8) (rt0 := (some .int)) hE [.int y0] wt_ld_ap_112 wt_ya_ap_refuse (wp_ap_refuse_ok hR.2.2.2 hq2) (by omega) rfl rfl (Nat.le_of_ble_eq_true rfl) (by decide) (by decide) wp_ap_piece_d15 (fun he => ?_) (fun he => ?_)
  · have h := wt_in he h
    cases h
    exact ⟨_, hR⟩
  have h := wt_ip he h
  refine wt_iload_n hE wp_ap_piece_d18 rfl ?_
  refine wt_if_lt hE 34 wp_ap_piece_d19 rfl (fun c3 => ?_) (fun c3 => ?_)
  · have h := wt_ip c3 h
    refine wt_wk [true, false, false, false] rfl ?_
    exact wp_ap_piece_B34_ok hE hR hD h
  · have h := wt_in c3 h
    refine wt_iload_n hE wp_ap_piece_d22 rfl ?_
    refine wt_aload_n hE wp_ap_piece_d23 rfl ?_
    refine wt_getr hE (r := 76) wt_lf_ap_59 (hD 0 (Nat.le_of_ble_eq_true rfl)) wt_L0 rfl wp_ap_piece_d24 ?_
    refine wt_iload_n hE wp_ap_piece_d27 rfl ?_
    obtain ⟨q4, hq4, h⟩ := wt_bi h
    refine wt_callVi hE [.int x1] wt_lm_ap_174 wt_ya_sk_pieces (wp_sk_pieces_ok hD hq4) (by omega) (hD 76 (Nat.le_of_ble_eq_true rfl)) wt_L76 rfl rfl rfl (Nat.le_of_ble_eq_true rfl) (by decide) wp_ap_piece_d28 (fun hbq4 => ?_)
    refine wt_icmp_lt hE 44 wp_ap_piece_d31 rfl (fun c5 => ?_) (fun c5 => ?_)
    · have h := wt_ip c5 h
      refine wt_iload_n hE wp_ap_piece_d44 rfl ?_
      refine wt_if_lt hE 53 wp_ap_piece_d45 rfl (fun c6 => ?_) (fun c6 => ?_)
      · have h := wt_ip c6 h
        exact wp_ap_piece_B53_ok hE hR hD h
      · have h := wt_in c6 h
        refine wt_iload_n hE wp_ap_piece_d48 rfl ?_
        refine wt_iconst hE (1 : Int32) wp_ap_piece_d49 wt_ci_1 ?_
        refine wt_icmp_le hE 57 wp_ap_piece_d50 rfl (fun c10 => ?_) (fun c10 => ?_)
        · have h := wt_ip c10 h
          refine wt_iconst hE (0 : Int32) wp_ap_piece_d57 wt_ci_0 ?_
          exact wp_ap_piece_B58_ok hE hR hD h
        · have h := wt_in c10 h
          exact wp_ap_piece_B53_ok hE hR hD h
    · have h := wt_in c5 h
      refine wt_wk [true, false, false, false] rfl ?_
      exact wp_ap_piece_B34_ok hE hR hD h
noncomputable def wp_ap_piece_B10 (n : Nat) (x1 : Int32) (x2 : Int32) (x3 : Int32) (σ : wt_St) : Option (Nat × Int32 × wt_St) :=
  wp_ap_piece_B15 n x1 x2 x3 (1 : Int32) σ
set_option maxRecDepth 100000 in
set_option maxHeartbeats 4000000 in
theorem wp_ap_piece_B10_ok  {x1 : Int32} {x2 : Int32} {x3 : Int32} {X : wt_X} {n : Nat} {res : Nat × Int32 × wt_St} (hE : wt_Ok X prog_1_method_9_code 4 "WornType" 7 8) (hR : wt_RtX X (some .int) 8 res.1 (some res.2.1) res.2.2) (hD : ∀ i, i < 108 → wt_dom (wt_xw X) i)  {σ : wt_St} (h : wp_ap_piece_B10 n x1 x2 x3 σ = some res) : wt_V X 0 σ 10 [some (.ref (wt_ad (wt_xw X) 0)), some (.int x1), some (.int x2), some (.int x3)] [] := by
  unfold wp_ap_piece_B10 at h
  refine wt_iconst hE (1 : Int32) wp_ap_piece_d10 wt_ci_1 ?_
  refine wt_goto hE 15 wp_ap_piece_d11 rfl ?_
  exact wp_ap_piece_B15_ok hE hR hD h
noncomputable def wp_ap_piece (n : Nat) (x1 : Int32) (x2 : Int32) (x3 : Int32) (σ : wt_St) : Option (Nat × Int32 × wt_St) :=
  if x1 < 0 then
    wp_ap_piece_B10 n x1 x2 x3 σ
  else
    if x1 < (26 : Int32) then
      wp_ap_piece_B15 n x1 x2 x3 (0 : Int32) σ
    else
      wp_ap_piece_B10 n x1 x2 x3 σ
set_option maxRecDepth 100000 in
set_option maxHeartbeats 4000000 in
theorem wp_ap_piece_ok {l : Launch} (htr : l.stackTraces = false) {w : wt_E} {n : Nat} {x1 : Int32} {x2 : Int32} {x3 : Int32} (hD : ∀ i, i < 108 → wt_dom w i) {σ : wt_St} {q : Nat × Int32 × wt_St} (h : wp_ap_piece n x1 x2 x3 σ = some q) : wt_CtrX l w wt_y_ap_piece prog_1_method_9_code 4 (some .int) 7 8 [.ref (wt_ad w 0), .int x1, .int x2, .int x3] σ q.1 (some q.2.1) q.2.2 := by
  refine wt_ctrX htr wt_pl_ap_piece rfl (Nat.le_of_ble_eq_true rfl) [some (.ref (wt_ad w 0)), some (.int x1), some (.int x2), some (.int x3)] rfl ?_
  intro X hXl hXw hE hR
  subst hXl
  subst hXw
  have hE : wt_Ok X prog_1_method_9_code 4 "WornType" 7 8 := hE
  unfold wp_ap_piece at h
  refine wt_iload_n hE wp_ap_piece_d0 rfl ?_
  refine wt_if_lt hE 10 wp_ap_piece_d1 rfl (fun c1 => ?_) (fun c1 => ?_)
  · have h := wt_ip c1 h
    exact wp_ap_piece_B10_ok hE hR hD h
  · have h := wt_in c1 h
    refine wt_iload_n hE wp_ap_piece_d4 rfl ?_
    refine wt_bipush hE (26 : Int32) wp_ap_piece_d5 wt_cb_26 ?_
    refine wt_icmp_lt hE 14 wp_ap_piece_d7 rfl (fun c11 => ?_) (fun c11 => ?_)
    · have h := wt_ip c11 h
      refine wt_iconst hE (0 : Int32) wp_ap_piece_d14 wt_ci_0 ?_
      exact wp_ap_piece_B15_ok hE hR hD h
    · have h := wt_in c11 h
      exact wp_ap_piece_B10_ok hE hR hD h
def wb42thm_prog_1_method_17_code_r1 : List (List Nat) := [28, 182, 1, 10, 172] :: []
def wb42thm_prog_1_method_17_code_r0 : List (List Nat) := [42, 180, 0, 68, 27, 182, 1, 7, 154, 0, 7, 4, 167, 0, 4, 3, 184, 0, 219, 28, 184, 0, 253, 42, 180, 0, 68, 27] :: wb42thm_prog_1_method_17_code_r1
set_option maxRecDepth 100000 in
theorem wb42thm_prog_1_method_17_code_c0 : wt_cs prog_1_method_17_code 0 wb42thm_prog_1_method_17_code_r0 := wt_cs_of (by decide +kernel)
theorem wb42thm_prog_1_method_17_code_c1 : wt_cs prog_1_method_17_code 28 wb42thm_prog_1_method_17_code_r1 := wt_cs_tl (m := 28) wb42thm_prog_1_method_17_code_c0 rfl rfl
theorem wp_ap_print_d0 : decode prog_1_method_17_code 0 = .ok (.aload_n 0, 1) := wt_op42 wb42thm_prog_1_method_17_code_c0 0 rfl rfl
theorem wp_ap_print_d1 : decode prog_1_method_17_code 1 = .ok (.getfield 68, 3) := wt_op180 wb42thm_prog_1_method_17_code_c0 1 rfl rfl rfl
theorem wp_ap_print_d4 : decode prog_1_method_17_code 4 = .ok (.iload_n 1, 1) := wt_op27 wb42thm_prog_1_method_17_code_c0 4 rfl rfl
theorem wp_ap_print_d5 : decode prog_1_method_17_code 5 = .ok (.invokevirtual 263, 3) := wt_op182 wb42thm_prog_1_method_17_code_c0 5 rfl rfl rfl
theorem wp_ap_print_d8 : decode prog_1_method_17_code 8 = .ok (.ifCond .ne 7, 3) := wt_op154 wb42thm_prog_1_method_17_code_c0 8 rfl rfl rfl
theorem wp_ap_print_d11 : decode prog_1_method_17_code 11 = .ok (.iconst 1, 1) := wt_op4 wb42thm_prog_1_method_17_code_c0 11 rfl rfl
theorem wp_ap_print_d12 : decode prog_1_method_17_code 12 = .ok (.goto 4, 3) := wt_op167 wb42thm_prog_1_method_17_code_c0 12 rfl rfl rfl
theorem wp_ap_print_d15 : decode prog_1_method_17_code 15 = .ok (.iconst 0, 1) := wt_op3 wb42thm_prog_1_method_17_code_c0 15 rfl rfl
theorem wp_ap_print_d16 : decode prog_1_method_17_code 16 = .ok (.invokestatic 219, 3) := wt_op184 wb42thm_prog_1_method_17_code_c0 16 rfl rfl rfl
theorem wp_ap_print_d19 : decode prog_1_method_17_code 19 = .ok (.iload_n 2, 1) := wt_op28 wb42thm_prog_1_method_17_code_c0 19 rfl rfl
theorem wp_ap_print_d20 : decode prog_1_method_17_code 20 = .ok (.invokestatic 253, 3) := wt_op184 wb42thm_prog_1_method_17_code_c0 20 rfl rfl rfl
theorem wp_ap_print_d23 : decode prog_1_method_17_code 23 = .ok (.aload_n 0, 1) := wt_op42 wb42thm_prog_1_method_17_code_c0 23 rfl rfl
theorem wp_ap_print_d24 : decode prog_1_method_17_code 24 = .ok (.getfield 68, 3) := wt_op180 wb42thm_prog_1_method_17_code_c0 24 rfl rfl rfl
theorem wp_ap_print_d27 : decode prog_1_method_17_code 27 = .ok (.iload_n 1, 1) := wt_op27 wb42thm_prog_1_method_17_code_c0 27 rfl rfl
theorem wp_ap_print_d28 : decode prog_1_method_17_code 28 = .ok (.iload_n 2, 1) := wt_op28 wb42thm_prog_1_method_17_code_c1 0 rfl rfl
theorem wp_ap_print_d29 : decode prog_1_method_17_code 29 = .ok (.invokevirtual 266, 3) := wt_op182 wb42thm_prog_1_method_17_code_c1 1 rfl rfl rfl
theorem wp_ap_print_d32 : decode prog_1_method_17_code 32 = .ok (.ireturn, 1) := wt_op172 wb42thm_prog_1_method_17_code_c1 4 rfl rfl
noncomputable def wp_ap_print_B16 (n : Nat) (x1 : Int32) (x2 : Int32) (y0 : Int32) (σ : wt_St) : Option (Nat × Int32 × wt_St) :=
  (wp_ap_miss n y0 σ).bind fun q3 =>
  if q3.1 = 0 then
  (wp_ap_refuseCopies n x2 q3.2.2).bind fun q4 =>
  if q4.1 = 0 then
  (wp_pg_press n x1 x2 q4.2.2).bind fun q5 =>
  some (0, q5.1, q5.2)
  else some (q4.1, 0, q4.2.2)
  else some (q3.1, 0, q3.2.2)
set_option maxRecDepth 100000 in
set_option maxHeartbeats 4000000 in
theorem wp_ap_print_B16_ok  {x1 : Int32} {x2 : Int32} {X : wt_X} {n : Nat} {res : Nat × Int32 × wt_St} (hE : wt_Ok X prog_1_method_17_code 3 "WornType" 8 8) (hR : wt_RtX X (some .int) 8 res.1 (some res.2.1) res.2.2) (hD : ∀ i, i < 108 → wt_dom (wt_xw X) i)  {σ : wt_St} {y0 : Int32} (h : wp_ap_print_B16 n x1 x2 y0 σ = some res) : wt_V X 0 σ 16 [some (.ref (wt_ad (wt_xw X) 0)), some (.int x1), some (.int x2)] [.int y0] := by
  unfold wp_ap_print_B16 at h
  obtain ⟨q3, hq3, h⟩ := wt_bi h
  refine wt_callSXv (mc := 8) (rt0 := (some .int)) hE [.int y0] wt_ld_ap_219 wt_ya_ap_miss (wp_ap_miss_ok hR.2.2.2 hq3) (by omega) rfl rfl (Nat.le_of_ble_eq_true rfl) (by decide) (by decide) wp_ap_print_d16 (fun he => ?_) (fun he => ?_)
  · have h := wt_in he h
    cases h
    exact ⟨_, hR⟩
  have h := wt_ip he h
  refine wt_iload_n hE wp_ap_print_d19 rfl ?_
  obtain ⟨q4, hq4, h⟩ := wt_bi h
  refine wt_callSXv (mc := 8) (rt0 := (some .int)) hE [.int x2] wt_ld_ap_253 wt_ya_ap_refuseCopies (wp_ap_refuseCopies_ok hR.2.2.2 hq4) (by omega) rfl rfl (Nat.le_of_ble_eq_true rfl) (by decide) (by decide) wp_ap_print_d20 (fun he => ?_) (fun he => ?_)
  · have h := wt_in he h
    cases h
    exact ⟨_, hR⟩
  have h := wt_ip he h
  refine wt_aload_n hE wp_ap_print_d23 rfl ?_
  refine wt_getr hE (r := 77) wt_lf_ap_68 (hD 0 (Nat.le_of_ble_eq_true rfl)) wt_L0 rfl wp_ap_print_d24 ?_
  refine wt_iload_n hE wp_ap_print_d27 rfl ?_
  refine wt_iload_n hE wp_ap_print_d28 rfl ?_
  obtain ⟨q5, hq5, h⟩ := wt_bi h
  refine wt_callVi hE [.int x1, .int x2] wt_lm_ap_266 wt_ya_pg_press (wp_pg_press_ok hD hq5) (by omega) (hD 77 (Nat.le_of_ble_eq_true rfl)) wt_L77 rfl rfl rfl (Nat.le_of_ble_eq_true rfl) (by decide) wp_ap_print_d29 (fun hbq5 => ?_)
  cases h
  exact wt_iretX hE hR (by decide) wp_ap_print_d32
noncomputable def wp_ap_print (n : Nat) (x1 : Int32) (x2 : Int32) (σ : wt_St) : Option (Nat × Int32 × wt_St) :=
  (wp_pg_stands n x1 σ).bind fun q1 =>
  if q1.1 = 0 then
    wp_ap_print_B16 n x1 x2 (1 : Int32) q1.2
  else
    wp_ap_print_B16 n x1 x2 (0 : Int32) q1.2
set_option maxRecDepth 100000 in
set_option maxHeartbeats 4000000 in
theorem wp_ap_print_ok {l : Launch} (htr : l.stackTraces = false) {w : wt_E} {n : Nat} {x1 : Int32} {x2 : Int32} (hD : ∀ i, i < 108 → wt_dom w i) {σ : wt_St} {q : Nat × Int32 × wt_St} (h : wp_ap_print n x1 x2 σ = some q) : wt_CtrX l w wt_y_ap_print prog_1_method_17_code 3 (some .int) 8 8 [.ref (wt_ad w 0), .int x1, .int x2] σ q.1 (some q.2.1) q.2.2 := by
  refine wt_ctrX htr wt_pl_ap_print rfl (Nat.le_of_ble_eq_true rfl) [some (.ref (wt_ad w 0)), some (.int x1), some (.int x2)] rfl ?_
  intro X hXl hXw hE hR
  subst hXl
  subst hXw
  have hE : wt_Ok X prog_1_method_17_code 3 "WornType" 8 8 := hE
  unfold wp_ap_print at h
  refine wt_aload_n hE wp_ap_print_d0 rfl ?_
  refine wt_getr hE (r := 77) wt_lf_ap_68 (hD 0 (Nat.le_of_ble_eq_true rfl)) wt_L0 rfl wp_ap_print_d1 ?_
  refine wt_iload_n hE wp_ap_print_d4 rfl ?_
  obtain ⟨q1, hq1, h⟩ := wt_bi h
  refine wt_callVi hE [.int x1] wt_lm_ap_263 wt_ya_pg_stands (wp_pg_stands_ok hD hq1) (by omega) (hD 77 (Nat.le_of_ble_eq_true rfl)) wt_L77 rfl rfl rfl (Nat.le_of_ble_eq_true rfl) (by decide) wp_ap_print_d5 (fun hbq1 => ?_)
  refine wt_if_ne hE 15 wp_ap_print_d8 rfl (fun c2 => ?_) (fun c2 => ?_)
  · have h := wt_in c2 h
    refine wt_iconst hE (0 : Int32) wp_ap_print_d15 wt_ci_0 ?_
    exact wp_ap_print_B16_ok hE hR hD h
  · have h := wt_ip c2 h
    refine wt_iconst hE (1 : Int32) wp_ap_print_d11 wt_ci_1 ?_
    refine wt_goto hE 16 wp_ap_print_d12 rfl ?_
    exact wp_ap_print_B16_ok hE hR hD h
def wb42thm_prog_1_method_20_code_r1 : List (List Nat) := [27, 184, 0, 193, 28, 182, 0, 245, 2, 160, 0, 6, 16, 254, 172, 42, 180, 0, 68, 27, 28, 182, 1, 33, 172] :: []
def wb42thm_prog_1_method_20_code_r0 : List (List Nat) := [42, 180, 0, 68, 27, 182, 1, 7, 154, 0, 7, 4, 167, 0, 4, 3, 184, 0, 219, 42, 180, 0, 39, 42, 180, 0, 46, 180, 1, 19] :: wb42thm_prog_1_method_20_code_r1
set_option maxRecDepth 100000 in
theorem wb42thm_prog_1_method_20_code_c0 : wt_cs prog_1_method_20_code 0 wb42thm_prog_1_method_20_code_r0 := wt_cs_of (by decide +kernel)
theorem wb42thm_prog_1_method_20_code_c1 : wt_cs prog_1_method_20_code 30 wb42thm_prog_1_method_20_code_r1 := wt_cs_tl (m := 30) wb42thm_prog_1_method_20_code_c0 rfl rfl
theorem wp_ap_read_d0 : decode prog_1_method_20_code 0 = .ok (.aload_n 0, 1) := wt_op42 wb42thm_prog_1_method_20_code_c0 0 rfl rfl
theorem wp_ap_read_d1 : decode prog_1_method_20_code 1 = .ok (.getfield 68, 3) := wt_op180 wb42thm_prog_1_method_20_code_c0 1 rfl rfl rfl
theorem wp_ap_read_d4 : decode prog_1_method_20_code 4 = .ok (.iload_n 1, 1) := wt_op27 wb42thm_prog_1_method_20_code_c0 4 rfl rfl
theorem wp_ap_read_d5 : decode prog_1_method_20_code 5 = .ok (.invokevirtual 263, 3) := wt_op182 wb42thm_prog_1_method_20_code_c0 5 rfl rfl rfl
theorem wp_ap_read_d8 : decode prog_1_method_20_code 8 = .ok (.ifCond .ne 7, 3) := wt_op154 wb42thm_prog_1_method_20_code_c0 8 rfl rfl rfl
theorem wp_ap_read_d11 : decode prog_1_method_20_code 11 = .ok (.iconst 1, 1) := wt_op4 wb42thm_prog_1_method_20_code_c0 11 rfl rfl
theorem wp_ap_read_d12 : decode prog_1_method_20_code 12 = .ok (.goto 4, 3) := wt_op167 wb42thm_prog_1_method_20_code_c0 12 rfl rfl rfl
theorem wp_ap_read_d15 : decode prog_1_method_20_code 15 = .ok (.iconst 0, 1) := wt_op3 wb42thm_prog_1_method_20_code_c0 15 rfl rfl
theorem wp_ap_read_d16 : decode prog_1_method_20_code 16 = .ok (.invokestatic 219, 3) := wt_op184 wb42thm_prog_1_method_20_code_c0 16 rfl rfl rfl
theorem wp_ap_read_d19 : decode prog_1_method_20_code 19 = .ok (.aload_n 0, 1) := wt_op42 wb42thm_prog_1_method_20_code_c0 19 rfl rfl
theorem wp_ap_read_d20 : decode prog_1_method_20_code 20 = .ok (.getfield 39, 3) := wt_op180 wb42thm_prog_1_method_20_code_c0 20 rfl rfl rfl
theorem wp_ap_read_d23 : decode prog_1_method_20_code 23 = .ok (.aload_n 0, 1) := wt_op42 wb42thm_prog_1_method_20_code_c0 23 rfl rfl
theorem wp_ap_read_d24 : decode prog_1_method_20_code 24 = .ok (.getfield 46, 3) := wt_op180 wb42thm_prog_1_method_20_code_c0 24 rfl rfl rfl
theorem wp_ap_read_d27 : decode prog_1_method_20_code 27 = .ok (.getfield 275, 3) := wt_op180 wb42thm_prog_1_method_20_code_c0 27 rfl rfl rfl
theorem wp_ap_read_d30 : decode prog_1_method_20_code 30 = .ok (.iload_n 1, 1) := wt_op27 wb42thm_prog_1_method_20_code_c1 0 rfl rfl
theorem wp_ap_read_d31 : decode prog_1_method_20_code 31 = .ok (.invokestatic 193, 3) := wt_op184 wb42thm_prog_1_method_20_code_c1 1 rfl rfl rfl
theorem wp_ap_read_d34 : decode prog_1_method_20_code 34 = .ok (.iload_n 2, 1) := wt_op28 wb42thm_prog_1_method_20_code_c1 4 rfl rfl
theorem wp_ap_read_d35 : decode prog_1_method_20_code 35 = .ok (.invokevirtual 245, 3) := wt_op182 wb42thm_prog_1_method_20_code_c1 5 rfl rfl rfl
theorem wp_ap_read_d38 : decode prog_1_method_20_code 38 = .ok (.iconst (-1), 1) := wt_op2 wb42thm_prog_1_method_20_code_c1 8 rfl rfl
theorem wp_ap_read_d39 : decode prog_1_method_20_code 39 = .ok (.if_icmp .ne 6, 3) := wt_op160 wb42thm_prog_1_method_20_code_c1 9 rfl rfl rfl
theorem wp_ap_read_d42 : decode prog_1_method_20_code 42 = .ok (.bipush (-2), 2) := wt_op16 wb42thm_prog_1_method_20_code_c1 12 rfl rfl rfl
theorem wp_ap_read_d44 : decode prog_1_method_20_code 44 = .ok (.ireturn, 1) := wt_op172 wb42thm_prog_1_method_20_code_c1 14 rfl rfl
theorem wp_ap_read_d45 : decode prog_1_method_20_code 45 = .ok (.aload_n 0, 1) := wt_op42 wb42thm_prog_1_method_20_code_c1 15 rfl rfl
theorem wp_ap_read_d46 : decode prog_1_method_20_code 46 = .ok (.getfield 68, 3) := wt_op180 wb42thm_prog_1_method_20_code_c1 16 rfl rfl rfl
theorem wp_ap_read_d49 : decode prog_1_method_20_code 49 = .ok (.iload_n 1, 1) := wt_op27 wb42thm_prog_1_method_20_code_c1 19 rfl rfl
theorem wp_ap_read_d50 : decode prog_1_method_20_code 50 = .ok (.iload_n 2, 1) := wt_op28 wb42thm_prog_1_method_20_code_c1 20 rfl rfl
theorem wp_ap_read_d51 : decode prog_1_method_20_code 51 = .ok (.invokevirtual 289, 3) := wt_op182 wb42thm_prog_1_method_20_code_c1 21 rfl rfl rfl
theorem wp_ap_read_d54 : decode prog_1_method_20_code 54 = .ok (.ireturn, 1) := wt_op172 wb42thm_prog_1_method_20_code_c1 24 rfl rfl
noncomputable def wp_ap_read_B16 (n : Nat) (x1 : Int32) (x2 : Int32) (y0 : Int32) (σ : wt_St) : Option (Nat × Int32 × wt_St) :=
  (wp_ap_miss n y0 σ).bind fun q3 =>
  if q3.1 = 0 then
  (wp_ap_look n 43 x1 q3.2.2).bind fun q4 =>
  (wp_tx_wordAt n q4.1 x2 q4.2).bind fun q5 =>
  if q5.1 = (-1 : Int32) then
    some (0, (-2 : Int32), q5.2)
  else
    (wp_pg_readAs n x1 x2 q5.2).bind fun q7 =>
    some (0, q7.1, q7.2)
  else some (q3.1, 0, q3.2.2)
set_option maxRecDepth 100000 in
set_option maxHeartbeats 4000000 in
theorem wp_ap_read_B16_ok  {x1 : Int32} {x2 : Int32} {X : wt_X} {n : Nat} {res : Nat × Int32 × wt_St} (hE : wt_Ok X prog_1_method_20_code 3 "WornType" 7 8) (hR : wt_RtX X (some .int) 8 res.1 (some res.2.1) res.2.2) (hD : ∀ i, i < 108 → wt_dom (wt_xw X) i)  {σ : wt_St} {y0 : Int32} (h : wp_ap_read_B16 n x1 x2 y0 σ = some res) : wt_V X 0 σ 16 [some (.ref (wt_ad (wt_xw X) 0)), some (.int x1), some (.int x2)] [.int y0] := by
  unfold wp_ap_read_B16 at h
  obtain ⟨q3, hq3, h⟩ := wt_bi h
  refine wt_callSXv (mc := 8) (rt0 := (some .int)) hE [.int y0] wt_ld_ap_219 wt_ya_ap_miss (wp_ap_miss_ok hR.2.2.2 hq3) (by omega) rfl rfl (Nat.le_of_ble_eq_true rfl) (by decide) (by decide) wp_ap_read_d16 (fun he => ?_) (fun he => ?_)
  · have h := wt_in he h
    cases h
    exact ⟨_, hR⟩
  have h := wt_ip he h
  refine wt_aload_n hE wp_ap_read_d19 rfl ?_
  refine wt_getr hE (r := 34) wt_lf_ap_39 (hD 0 (Nat.le_of_ble_eq_true rfl)) wt_L0 rfl wp_ap_read_d20 ?_
  refine wt_aload_n hE wp_ap_read_d23 rfl ?_
  refine wt_getr hE (r := 39) wt_lf_ap_46 (hD 0 (Nat.le_of_ble_eq_true rfl)) wt_L0 rfl wp_ap_read_d24 ?_
  refine wt_getr hE (r := 43) wt_lf_ap_275 (hD 39 (Nat.le_of_ble_eq_true rfl)) wt_L39 rfl wp_ap_read_d27 ?_
  refine wt_iload_n hE wp_ap_read_d30 rfl ?_
  obtain ⟨q4, hq4, h⟩ := wt_bi h
  refine wt_callSi hE [.ref (wt_ad (wt_xw X) 43), .int x1] wt_lm_ap_193 wt_ya_ap_look (wp_ap_look_ok (wt_lnE wt_L43) (hD 43 (Nat.le_of_ble_eq_true rfl)) hq4) (by omega) rfl rfl (Nat.le_of_ble_eq_true rfl) (by decide) wp_ap_read_d31 (fun hbq4 => ?_)
  refine wt_iload_n hE wp_ap_read_d34 rfl ?_
  obtain ⟨q5, hq5, h⟩ := wt_bi h
  refine wt_callVi hE [.int q4.1, .int x2] wt_lm_ap_245 wt_ya_tx_wordAt (wp_tx_wordAt_ok hD hq5) (by omega) (hD 34 (Nat.le_of_ble_eq_true rfl)) wt_L34 rfl rfl rfl (Nat.le_of_ble_eq_true rfl) (by decide) wp_ap_read_d35 (fun hbq5 => ?_)
  refine wt_iconst hE (-1 : Int32) wp_ap_read_d38 wt_ci_m1 ?_
  refine wt_icmp_ne hE 45 wp_ap_read_d39 rfl (fun c6 => ?_) (fun c6 => ?_)
  · have h := wt_in c6 h
    refine wt_aload_n hE wp_ap_read_d45 rfl ?_
    refine wt_getr hE (r := 77) wt_lf_ap_68 (hD 0 (Nat.le_of_ble_eq_true rfl)) wt_L0 rfl wp_ap_read_d46 ?_
    refine wt_iload_n hE wp_ap_read_d49 rfl ?_
    refine wt_iload_n hE wp_ap_read_d50 rfl ?_
    obtain ⟨q7, hq7, h⟩ := wt_bi h
    refine wt_callVi hE [.int x1, .int x2] wt_lm_ap_289 wt_ya_pg_readAs (wp_pg_readAs_ok hD hq7) (by omega) (hD 77 (Nat.le_of_ble_eq_true rfl)) wt_L77 rfl rfl rfl (Nat.le_of_ble_eq_true rfl) (by decide) wp_ap_read_d51 (fun hbq7 => ?_)
    cases h
    exact wt_iretX hE hR (by decide) wp_ap_read_d54
  · have h := wt_ip c6 h
    refine wt_bipush hE (-2 : Int32) wp_ap_read_d42 wt_cb_m2 ?_
    cases h
    exact wt_iretX hE hR (by decide) wp_ap_read_d44
noncomputable def wp_ap_read (n : Nat) (x1 : Int32) (x2 : Int32) (σ : wt_St) : Option (Nat × Int32 × wt_St) :=
  (wp_pg_stands n x1 σ).bind fun q1 =>
  if q1.1 = 0 then
    wp_ap_read_B16 n x1 x2 (1 : Int32) q1.2
  else
    wp_ap_read_B16 n x1 x2 (0 : Int32) q1.2
set_option maxRecDepth 100000 in
set_option maxHeartbeats 4000000 in
theorem wp_ap_read_ok {l : Launch} (htr : l.stackTraces = false) {w : wt_E} {n : Nat} {x1 : Int32} {x2 : Int32} (hD : ∀ i, i < 108 → wt_dom w i) {σ : wt_St} {q : Nat × Int32 × wt_St} (h : wp_ap_read n x1 x2 σ = some q) : wt_CtrX l w wt_y_ap_read prog_1_method_20_code 3 (some .int) 7 8 [.ref (wt_ad w 0), .int x1, .int x2] σ q.1 (some q.2.1) q.2.2 := by
  refine wt_ctrX htr wt_pl_ap_read rfl (Nat.le_of_ble_eq_true rfl) [some (.ref (wt_ad w 0)), some (.int x1), some (.int x2)] rfl ?_
  intro X hXl hXw hE hR
  subst hXl
  subst hXw
  have hE : wt_Ok X prog_1_method_20_code 3 "WornType" 7 8 := hE
  unfold wp_ap_read at h
  refine wt_aload_n hE wp_ap_read_d0 rfl ?_
  refine wt_getr hE (r := 77) wt_lf_ap_68 (hD 0 (Nat.le_of_ble_eq_true rfl)) wt_L0 rfl wp_ap_read_d1 ?_
  refine wt_iload_n hE wp_ap_read_d4 rfl ?_
  obtain ⟨q1, hq1, h⟩ := wt_bi h
  refine wt_callVi hE [.int x1] wt_lm_ap_263 wt_ya_pg_stands (wp_pg_stands_ok hD hq1) (by omega) (hD 77 (Nat.le_of_ble_eq_true rfl)) wt_L77 rfl rfl rfl (Nat.le_of_ble_eq_true rfl) (by decide) wp_ap_read_d5 (fun hbq1 => ?_)
  refine wt_if_ne hE 15 wp_ap_read_d8 rfl (fun c2 => ?_) (fun c2 => ?_)
  · have h := wt_in c2 h
    refine wt_iconst hE (0 : Int32) wp_ap_read_d15 wt_ci_0 ?_
    exact wp_ap_read_B16_ok hE hR hD h
  · have h := wt_ip c2 h
    refine wt_iconst hE (1 : Int32) wp_ap_read_d11 wt_ci_1 ?_
    refine wt_goto hE 16 wp_ap_read_d12 rfl ?_
    exact wp_ap_read_B16_ok hE hR hD h
def wb42thm_prog_1_method_29_code_r1 : List (List Nat) := [4, 167, 0, 4, 3, 184, 0, 112, 42, 180, 0, 84, 28, 182, 1, 75, 42, 180, 0, 84, 27, 182, 1, 81, 172] :: []
def wb42thm_prog_1_method_29_code_r0 : List (List Nat) := [42, 180, 0, 29, 27, 182, 0, 215, 154, 0, 7, 4, 167, 0, 4, 3, 184, 0, 219, 28, 155, 0, 9, 28, 16, 100, 164, 0, 7] :: wb42thm_prog_1_method_29_code_r1
set_option maxRecDepth 100000 in
theorem wb42thm_prog_1_method_29_code_c0 : wt_cs prog_1_method_29_code 0 wb42thm_prog_1_method_29_code_r0 := wt_cs_of (by decide +kernel)
theorem wb42thm_prog_1_method_29_code_c1 : wt_cs prog_1_method_29_code 29 wb42thm_prog_1_method_29_code_r1 := wt_cs_tl (m := 29) wb42thm_prog_1_method_29_code_c0 rfl rfl
theorem wp_ap_said_d0 : decode prog_1_method_29_code 0 = .ok (.aload_n 0, 1) := wt_op42 wb42thm_prog_1_method_29_code_c0 0 rfl rfl
theorem wp_ap_said_d1 : decode prog_1_method_29_code 1 = .ok (.getfield 29, 3) := wt_op180 wb42thm_prog_1_method_29_code_c0 1 rfl rfl rfl
theorem wp_ap_said_d4 : decode prog_1_method_29_code 4 = .ok (.iload_n 1, 1) := wt_op27 wb42thm_prog_1_method_29_code_c0 4 rfl rfl
theorem wp_ap_said_d5 : decode prog_1_method_29_code 5 = .ok (.invokevirtual 215, 3) := wt_op182 wb42thm_prog_1_method_29_code_c0 5 rfl rfl rfl
theorem wp_ap_said_d8 : decode prog_1_method_29_code 8 = .ok (.ifCond .ne 7, 3) := wt_op154 wb42thm_prog_1_method_29_code_c0 8 rfl rfl rfl
theorem wp_ap_said_d11 : decode prog_1_method_29_code 11 = .ok (.iconst 1, 1) := wt_op4 wb42thm_prog_1_method_29_code_c0 11 rfl rfl
theorem wp_ap_said_d12 : decode prog_1_method_29_code 12 = .ok (.goto 4, 3) := wt_op167 wb42thm_prog_1_method_29_code_c0 12 rfl rfl rfl
theorem wp_ap_said_d15 : decode prog_1_method_29_code 15 = .ok (.iconst 0, 1) := wt_op3 wb42thm_prog_1_method_29_code_c0 15 rfl rfl
theorem wp_ap_said_d16 : decode prog_1_method_29_code 16 = .ok (.invokestatic 219, 3) := wt_op184 wb42thm_prog_1_method_29_code_c0 16 rfl rfl rfl
theorem wp_ap_said_d19 : decode prog_1_method_29_code 19 = .ok (.iload_n 2, 1) := wt_op28 wb42thm_prog_1_method_29_code_c0 19 rfl rfl
theorem wp_ap_said_d20 : decode prog_1_method_29_code 20 = .ok (.ifCond .lt 9, 3) := wt_op155 wb42thm_prog_1_method_29_code_c0 20 rfl rfl rfl
theorem wp_ap_said_d23 : decode prog_1_method_29_code 23 = .ok (.iload_n 2, 1) := wt_op28 wb42thm_prog_1_method_29_code_c0 23 rfl rfl
theorem wp_ap_said_d24 : decode prog_1_method_29_code 24 = .ok (.bipush 100, 2) := wt_op16 wb42thm_prog_1_method_29_code_c0 24 rfl rfl rfl
theorem wp_ap_said_d26 : decode prog_1_method_29_code 26 = .ok (.if_icmp .le 7, 3) := wt_op164 wb42thm_prog_1_method_29_code_c0 26 rfl rfl rfl
theorem wp_ap_said_d29 : decode prog_1_method_29_code 29 = .ok (.iconst 1, 1) := wt_op4 wb42thm_prog_1_method_29_code_c1 0 rfl rfl
theorem wp_ap_said_d30 : decode prog_1_method_29_code 30 = .ok (.goto 4, 3) := wt_op167 wb42thm_prog_1_method_29_code_c1 1 rfl rfl rfl
theorem wp_ap_said_d33 : decode prog_1_method_29_code 33 = .ok (.iconst 0, 1) := wt_op3 wb42thm_prog_1_method_29_code_c1 4 rfl rfl
theorem wp_ap_said_d34 : decode prog_1_method_29_code 34 = .ok (.invokestatic 112, 3) := wt_op184 wb42thm_prog_1_method_29_code_c1 5 rfl rfl rfl
theorem wp_ap_said_d37 : decode prog_1_method_29_code 37 = .ok (.aload_n 0, 1) := wt_op42 wb42thm_prog_1_method_29_code_c1 8 rfl rfl
theorem wp_ap_said_d38 : decode prog_1_method_29_code 38 = .ok (.getfield 84, 3) := wt_op180 wb42thm_prog_1_method_29_code_c1 9 rfl rfl rfl
theorem wp_ap_said_d41 : decode prog_1_method_29_code 41 = .ok (.iload_n 2, 1) := wt_op28 wb42thm_prog_1_method_29_code_c1 12 rfl rfl
theorem wp_ap_said_d42 : decode prog_1_method_29_code 42 = .ok (.invokevirtual 331, 3) := wt_op182 wb42thm_prog_1_method_29_code_c1 13 rfl rfl rfl
theorem wp_ap_said_d45 : decode prog_1_method_29_code 45 = .ok (.aload_n 0, 1) := wt_op42 wb42thm_prog_1_method_29_code_c1 16 rfl rfl
theorem wp_ap_said_d46 : decode prog_1_method_29_code 46 = .ok (.getfield 84, 3) := wt_op180 wb42thm_prog_1_method_29_code_c1 17 rfl rfl rfl
theorem wp_ap_said_d49 : decode prog_1_method_29_code 49 = .ok (.iload_n 1, 1) := wt_op27 wb42thm_prog_1_method_29_code_c1 20 rfl rfl
theorem wp_ap_said_d50 : decode prog_1_method_29_code 50 = .ok (.invokevirtual 337, 3) := wt_op182 wb42thm_prog_1_method_29_code_c1 21 rfl rfl rfl
theorem wp_ap_said_d53 : decode prog_1_method_29_code 53 = .ok (.ireturn, 1) := wt_op172 wb42thm_prog_1_method_29_code_c1 24 rfl rfl
noncomputable def wp_ap_said_B34 (n : Nat) (x1 : Int32) (x2 : Int32) (y0 : Int32) (σ : wt_St) : Option (Nat × Int32 × wt_St) :=
  (wp_ap_refuse n y0 σ).bind fun q5 =>
  if q5.1 = 0 then
  (wp_wk_printGreedily n x2 q5.2.2).bind fun q6 =>
  (wp_wk_stillSaid n x1 q6).bind fun q7 =>
  some (0, q7.1, q7.2)
  else some (q5.1, 0, q5.2.2)
set_option maxRecDepth 100000 in
set_option maxHeartbeats 4000000 in
theorem wp_ap_said_B34_ok  {x1 : Int32} {x2 : Int32} {X : wt_X} {n : Nat} {res : Nat × Int32 × wt_St} (hE : wt_Ok X prog_1_method_29_code 3 "WornType" 7 8) (hR : wt_RtX X (some .int) 8 res.1 (some res.2.1) res.2.2) (hD : ∀ i, i < 108 → wt_dom (wt_xw X) i)  {σ : wt_St} {y0 : Int32} (h : wp_ap_said_B34 n x1 x2 y0 σ = some res) : wt_V X 1 σ 34 [some (.ref (wt_ad (wt_xw X) 0)), some (.int x1), some (.int x2)] [.int y0] := by
  unfold wp_ap_said_B34 at h
  obtain ⟨q5, hq5, h⟩ := wt_bi h
  refine wt_callSXv (mc := 8) (rt0 := (some .int)) hE [.int y0] wt_ld_ap_112 wt_ya_ap_refuse (wp_ap_refuse_ok hR.2.2.2 hq5) (by omega) rfl rfl (Nat.le_of_ble_eq_true rfl) (by decide) (by decide) wp_ap_said_d34 (fun he => ?_) (fun he => ?_)
  · have h := wt_in he h
    cases h
    exact ⟨_, hR⟩
  have h := wt_ip he h
  refine wt_aload_n hE wp_ap_said_d37 rfl ?_
  refine wt_getr hE (r := 86) wt_lf_ap_84 (hD 0 (Nat.le_of_ble_eq_true rfl)) wt_L0 rfl wp_ap_said_d38 ?_
  refine wt_iload_n hE wp_ap_said_d41 rfl ?_
  obtain ⟨q6, hq6, h⟩ := wt_bi h
  refine wt_callVv hE [.int x2] wt_lm_ap_331 wt_ya_wk_printGreedily (wp_wk_printGreedily_ok hD hq6) (by omega) (hD 86 (Nat.le_of_ble_eq_true rfl)) wt_L86 rfl rfl rfl (Nat.le_of_ble_eq_true rfl) (by decide) wp_ap_said_d42 ?_
  refine wt_aload_n hE wp_ap_said_d45 rfl ?_
  refine wt_getr hE (r := 86) wt_lf_ap_84 (hD 0 (Nat.le_of_ble_eq_true rfl)) wt_L0 rfl wp_ap_said_d46 ?_
  refine wt_iload_n hE wp_ap_said_d49 rfl ?_
  obtain ⟨q7, hq7, h⟩ := wt_bi h
  refine wt_callVi hE [.int x1] wt_lm_ap_337 wt_ya_wk_stillSaid (wp_wk_stillSaid_ok hD hq7) (by omega) (hD 86 (Nat.le_of_ble_eq_true rfl)) wt_L86 rfl rfl rfl (Nat.le_of_ble_eq_true rfl) (by decide) wp_ap_said_d50 (fun hbq7 => ?_)
  cases h
  exact wt_iretX hE hR (by decide) wp_ap_said_d53
noncomputable def wp_ap_said_B29 (n : Nat) (x1 : Int32) (x2 : Int32) (σ : wt_St) : Option (Nat × Int32 × wt_St) :=
  wp_ap_said_B34 n x1 x2 (1 : Int32) σ
set_option maxRecDepth 100000 in
set_option maxHeartbeats 4000000 in
theorem wp_ap_said_B29_ok  {x1 : Int32} {x2 : Int32} {X : wt_X} {n : Nat} {res : Nat × Int32 × wt_St} (hE : wt_Ok X prog_1_method_29_code 3 "WornType" 7 8) (hR : wt_RtX X (some .int) 8 res.1 (some res.2.1) res.2.2) (hD : ∀ i, i < 108 → wt_dom (wt_xw X) i)  {σ : wt_St} (h : wp_ap_said_B29 n x1 x2 σ = some res) : wt_V X 1 σ 29 [some (.ref (wt_ad (wt_xw X) 0)), some (.int x1), some (.int x2)] [] := by
  unfold wp_ap_said_B29 at h
  refine wt_iconst hE (1 : Int32) wp_ap_said_d29 wt_ci_1 ?_
  refine wt_goto hE 34 wp_ap_said_d30 rfl ?_
  exact wp_ap_said_B34_ok hE hR hD h
noncomputable def wp_ap_said_B16 (n : Nat) (x1 : Int32) (x2 : Int32) (y0 : Int32) (σ : wt_St) : Option (Nat × Int32 × wt_St) :=
  (wp_ap_miss n y0 σ).bind fun q3 =>
  if q3.1 = 0 then
  if x2 < 0 then
    wp_ap_said_B29 n x1 x2 q3.2.2
  else
    if x2 ≤ (100 : Int32) then
      wp_ap_said_B34 n x1 x2 (0 : Int32) q3.2.2
    else
      wp_ap_said_B29 n x1 x2 q3.2.2
  else some (q3.1, 0, q3.2.2)
set_option maxRecDepth 100000 in
set_option maxHeartbeats 4000000 in
theorem wp_ap_said_B16_ok  {x1 : Int32} {x2 : Int32} {X : wt_X} {n : Nat} {res : Nat × Int32 × wt_St} (hE : wt_Ok X prog_1_method_29_code 3 "WornType" 7 8) (hR : wt_RtX X (some .int) 8 res.1 (some res.2.1) res.2.2) (hD : ∀ i, i < 108 → wt_dom (wt_xw X) i)  {σ : wt_St} {y0 : Int32} (h : wp_ap_said_B16 n x1 x2 y0 σ = some res) : wt_V X 0 σ 16 [some (.ref (wt_ad (wt_xw X) 0)), some (.int x1), some (.int x2)] [.int y0] := by
  unfold wp_ap_said_B16 at h
  obtain ⟨q3, hq3, h⟩ := wt_bi h
  refine wt_callSXv (mc := 8) (rt0 := (some .int)) hE [.int y0] wt_ld_ap_219 wt_ya_ap_miss (wp_ap_miss_ok hR.2.2.2 hq3) (by omega) rfl rfl (Nat.le_of_ble_eq_true rfl) (by decide) (by decide) wp_ap_said_d16 (fun he => ?_) (fun he => ?_)
  · have h := wt_in he h
    cases h
    exact ⟨_, hR⟩
  have h := wt_ip he h
  refine wt_iload_n hE wp_ap_said_d19 rfl ?_
  refine wt_if_lt hE 29 wp_ap_said_d20 rfl (fun c4 => ?_) (fun c4 => ?_)
  · have h := wt_ip c4 h
    exact wp_ap_said_B29_ok hE hR hD h
  · have h := wt_in c4 h
    refine wt_iload_n hE wp_ap_said_d23 rfl ?_
    refine wt_bipush hE (100 : Int32) wp_ap_said_d24 wt_cb_100 ?_
    refine wt_icmp_le hE 33 wp_ap_said_d26 rfl (fun c8 => ?_) (fun c8 => ?_)
    · have h := wt_ip c8 h
      refine wt_iconst hE (0 : Int32) wp_ap_said_d33 wt_ci_0 ?_
      exact wp_ap_said_B34_ok hE hR hD h
    · have h := wt_in c8 h
      exact wp_ap_said_B29_ok hE hR hD h
noncomputable def wp_ap_said (n : Nat) (x1 : Int32) (x2 : Int32) (σ : wt_St) : Option (Nat × Int32 × wt_St) :=
  (wp_tg_has n 20 x1 σ).bind fun q1 =>
  if q1.1 = 0 then
    wp_ap_said_B16 n x1 x2 (1 : Int32) q1.2
  else
    wp_ap_said_B16 n x1 x2 (0 : Int32) q1.2
set_option maxRecDepth 100000 in
set_option maxHeartbeats 4000000 in
theorem wp_ap_said_ok {l : Launch} (htr : l.stackTraces = false) {w : wt_E} {n : Nat} {x1 : Int32} {x2 : Int32} (hD : ∀ i, i < 108 → wt_dom w i) {σ : wt_St} {q : Nat × Int32 × wt_St} (h : wp_ap_said n x1 x2 σ = some q) : wt_CtrX l w wt_y_ap_said prog_1_method_29_code 3 (some .int) 7 8 [.ref (wt_ad w 0), .int x1, .int x2] σ q.1 (some q.2.1) q.2.2 := by
  refine wt_ctrX htr wt_pl_ap_said rfl (Nat.le_of_ble_eq_true rfl) [some (.ref (wt_ad w 0)), some (.int x1), some (.int x2)] rfl ?_
  intro X hXl hXw hE hR
  subst hXl
  subst hXw
  have hE : wt_Ok X prog_1_method_29_code 3 "WornType" 7 8 := hE
  unfold wp_ap_said at h
  refine wt_aload_n hE wp_ap_said_d0 rfl ?_
  refine wt_getr hE (r := 20) wt_lf_ap_29 (hD 0 (Nat.le_of_ble_eq_true rfl)) wt_L0 rfl wp_ap_said_d1 ?_
  refine wt_iload_n hE wp_ap_said_d4 rfl ?_
  obtain ⟨q1, hq1, h⟩ := wt_bi h
  refine wt_callVi hE [.int x1] wt_lm_ap_215 wt_ya_tg_has (wp_tg_has_ok wt_isTongue_20 (fun j hj => hD (20 + j) (by omega)) hq1) (by omega) (hD 20 (Nat.le_of_ble_eq_true rfl)) wt_L20 rfl rfl rfl (Nat.le_of_ble_eq_true rfl) (by decide) wp_ap_said_d5 (fun hbq1 => ?_)
  refine wt_if_ne hE 15 wp_ap_said_d8 rfl (fun c2 => ?_) (fun c2 => ?_)
  · have h := wt_in c2 h
    refine wt_iconst hE (0 : Int32) wp_ap_said_d15 wt_ci_0 ?_
    exact wp_ap_said_B16_ok hE hR hD h
  · have h := wt_ip c2 h
    refine wt_iconst hE (1 : Int32) wp_ap_said_d11 wt_ci_1 ?_
    refine wt_goto hE 16 wp_ap_said_d12 rfl ?_
    exact wp_ap_said_B16_ok hE hR hD h
def wb42thm_prog_1_method_16_code_r1 : List (List Nat) := [28, 182, 1, 4, 172] :: []
def wb42thm_prog_1_method_16_code_r0 : List (List Nat) := [42, 180, 0, 39, 27, 182, 0, 244, 154, 0, 7, 4, 167, 0, 4, 3, 184, 0, 219, 28, 184, 0, 253, 42, 180, 0, 68, 27] :: wb42thm_prog_1_method_16_code_r1
set_option maxRecDepth 100000 in
theorem wb42thm_prog_1_method_16_code_c0 : wt_cs prog_1_method_16_code 0 wb42thm_prog_1_method_16_code_r0 := wt_cs_of (by decide +kernel)
theorem wb42thm_prog_1_method_16_code_c1 : wt_cs prog_1_method_16_code 28 wb42thm_prog_1_method_16_code_r1 := wt_cs_tl (m := 28) wb42thm_prog_1_method_16_code_c0 rfl rfl
theorem wp_ap_set_d0 : decode prog_1_method_16_code 0 = .ok (.aload_n 0, 1) := wt_op42 wb42thm_prog_1_method_16_code_c0 0 rfl rfl
theorem wp_ap_set_d1 : decode prog_1_method_16_code 1 = .ok (.getfield 39, 3) := wt_op180 wb42thm_prog_1_method_16_code_c0 1 rfl rfl rfl
theorem wp_ap_set_d4 : decode prog_1_method_16_code 4 = .ok (.iload_n 1, 1) := wt_op27 wb42thm_prog_1_method_16_code_c0 4 rfl rfl
theorem wp_ap_set_d5 : decode prog_1_method_16_code 5 = .ok (.invokevirtual 244, 3) := wt_op182 wb42thm_prog_1_method_16_code_c0 5 rfl rfl rfl
theorem wp_ap_set_d8 : decode prog_1_method_16_code 8 = .ok (.ifCond .ne 7, 3) := wt_op154 wb42thm_prog_1_method_16_code_c0 8 rfl rfl rfl
theorem wp_ap_set_d11 : decode prog_1_method_16_code 11 = .ok (.iconst 1, 1) := wt_op4 wb42thm_prog_1_method_16_code_c0 11 rfl rfl
theorem wp_ap_set_d12 : decode prog_1_method_16_code 12 = .ok (.goto 4, 3) := wt_op167 wb42thm_prog_1_method_16_code_c0 12 rfl rfl rfl
theorem wp_ap_set_d15 : decode prog_1_method_16_code 15 = .ok (.iconst 0, 1) := wt_op3 wb42thm_prog_1_method_16_code_c0 15 rfl rfl
theorem wp_ap_set_d16 : decode prog_1_method_16_code 16 = .ok (.invokestatic 219, 3) := wt_op184 wb42thm_prog_1_method_16_code_c0 16 rfl rfl rfl
theorem wp_ap_set_d19 : decode prog_1_method_16_code 19 = .ok (.iload_n 2, 1) := wt_op28 wb42thm_prog_1_method_16_code_c0 19 rfl rfl
theorem wp_ap_set_d20 : decode prog_1_method_16_code 20 = .ok (.invokestatic 253, 3) := wt_op184 wb42thm_prog_1_method_16_code_c0 20 rfl rfl rfl
theorem wp_ap_set_d23 : decode prog_1_method_16_code 23 = .ok (.aload_n 0, 1) := wt_op42 wb42thm_prog_1_method_16_code_c0 23 rfl rfl
theorem wp_ap_set_d24 : decode prog_1_method_16_code 24 = .ok (.getfield 68, 3) := wt_op180 wb42thm_prog_1_method_16_code_c0 24 rfl rfl rfl
theorem wp_ap_set_d27 : decode prog_1_method_16_code 27 = .ok (.iload_n 1, 1) := wt_op27 wb42thm_prog_1_method_16_code_c0 27 rfl rfl
theorem wp_ap_set_d28 : decode prog_1_method_16_code 28 = .ok (.iload_n 2, 1) := wt_op28 wb42thm_prog_1_method_16_code_c1 0 rfl rfl
theorem wp_ap_set_d29 : decode prog_1_method_16_code 29 = .ok (.invokevirtual 260, 3) := wt_op182 wb42thm_prog_1_method_16_code_c1 1 rfl rfl rfl
theorem wp_ap_set_d32 : decode prog_1_method_16_code 32 = .ok (.ireturn, 1) := wt_op172 wb42thm_prog_1_method_16_code_c1 4 rfl rfl
noncomputable def wp_ap_set_B16 (n : Nat) (x1 : Int32) (x2 : Int32) (y0 : Int32) (σ : wt_St) : Option (Nat × Int32 × wt_St) :=
  (wp_ap_miss n y0 σ).bind fun q3 =>
  if q3.1 = 0 then
  (wp_ap_refuseCopies n x2 q3.2.2).bind fun q4 =>
  if q4.1 = 0 then
  (wp_pg_stand n x1 x2 q4.2.2).bind fun q5 =>
  some (0, q5.1, q5.2)
  else some (q4.1, 0, q4.2.2)
  else some (q3.1, 0, q3.2.2)
set_option maxRecDepth 100000 in
set_option maxHeartbeats 4000000 in
theorem wp_ap_set_B16_ok  {x1 : Int32} {x2 : Int32} {X : wt_X} {n : Nat} {res : Nat × Int32 × wt_St} (hE : wt_Ok X prog_1_method_16_code 3 "WornType" 8 8) (hR : wt_RtX X (some .int) 8 res.1 (some res.2.1) res.2.2) (hD : ∀ i, i < 108 → wt_dom (wt_xw X) i)  {σ : wt_St} {y0 : Int32} (h : wp_ap_set_B16 n x1 x2 y0 σ = some res) : wt_V X 0 σ 16 [some (.ref (wt_ad (wt_xw X) 0)), some (.int x1), some (.int x2)] [.int y0] := by
  unfold wp_ap_set_B16 at h
  obtain ⟨q3, hq3, h⟩ := wt_bi h
  refine wt_callSXv (mc := 8) (rt0 := (some .int)) hE [.int y0] wt_ld_ap_219 wt_ya_ap_miss (wp_ap_miss_ok hR.2.2.2 hq3) (by omega) rfl rfl (Nat.le_of_ble_eq_true rfl) (by decide) (by decide) wp_ap_set_d16 (fun he => ?_) (fun he => ?_)
  · have h := wt_in he h
    cases h
    exact ⟨_, hR⟩
  have h := wt_ip he h
  refine wt_iload_n hE wp_ap_set_d19 rfl ?_
  obtain ⟨q4, hq4, h⟩ := wt_bi h
  refine wt_callSXv (mc := 8) (rt0 := (some .int)) hE [.int x2] wt_ld_ap_253 wt_ya_ap_refuseCopies (wp_ap_refuseCopies_ok hR.2.2.2 hq4) (by omega) rfl rfl (Nat.le_of_ble_eq_true rfl) (by decide) (by decide) wp_ap_set_d20 (fun he => ?_) (fun he => ?_)
  · have h := wt_in he h
    cases h
    exact ⟨_, hR⟩
  have h := wt_ip he h
  refine wt_aload_n hE wp_ap_set_d23 rfl ?_
  refine wt_getr hE (r := 77) wt_lf_ap_68 (hD 0 (Nat.le_of_ble_eq_true rfl)) wt_L0 rfl wp_ap_set_d24 ?_
  refine wt_iload_n hE wp_ap_set_d27 rfl ?_
  refine wt_iload_n hE wp_ap_set_d28 rfl ?_
  obtain ⟨q5, hq5, h⟩ := wt_bi h
  refine wt_callVi hE [.int x1, .int x2] wt_lm_ap_260 wt_ya_pg_stand (wp_pg_stand_ok hD hq5) (by omega) (hD 77 (Nat.le_of_ble_eq_true rfl)) wt_L77 rfl rfl rfl (Nat.le_of_ble_eq_true rfl) (by decide) wp_ap_set_d29 (fun hbq5 => ?_)
  cases h
  exact wt_iretX hE hR (by decide) wp_ap_set_d32
noncomputable def wp_ap_set (n : Nat) (x1 : Int32) (x2 : Int32) (σ : wt_St) : Option (Nat × Int32 × wt_St) :=
  (wp_tx_has n x1 σ).bind fun q1 =>
  if q1.1 = 0 then
    wp_ap_set_B16 n x1 x2 (1 : Int32) q1.2
  else
    wp_ap_set_B16 n x1 x2 (0 : Int32) q1.2
set_option maxRecDepth 100000 in
set_option maxHeartbeats 4000000 in
theorem wp_ap_set_ok {l : Launch} (htr : l.stackTraces = false) {w : wt_E} {n : Nat} {x1 : Int32} {x2 : Int32} (hD : ∀ i, i < 108 → wt_dom w i) {σ : wt_St} {q : Nat × Int32 × wt_St} (h : wp_ap_set n x1 x2 σ = some q) : wt_CtrX l w wt_y_ap_set prog_1_method_16_code 3 (some .int) 8 8 [.ref (wt_ad w 0), .int x1, .int x2] σ q.1 (some q.2.1) q.2.2 := by
  refine wt_ctrX htr wt_pl_ap_set rfl (Nat.le_of_ble_eq_true rfl) [some (.ref (wt_ad w 0)), some (.int x1), some (.int x2)] rfl ?_
  intro X hXl hXw hE hR
  subst hXl
  subst hXw
  have hE : wt_Ok X prog_1_method_16_code 3 "WornType" 8 8 := hE
  unfold wp_ap_set at h
  refine wt_aload_n hE wp_ap_set_d0 rfl ?_
  refine wt_getr hE (r := 34) wt_lf_ap_39 (hD 0 (Nat.le_of_ble_eq_true rfl)) wt_L0 rfl wp_ap_set_d1 ?_
  refine wt_iload_n hE wp_ap_set_d4 rfl ?_
  obtain ⟨q1, hq1, h⟩ := wt_bi h
  refine wt_callVi hE [.int x1] wt_lm_ap_244 wt_ya_tx_has (wp_tx_has_ok hD hq1) (by omega) (hD 34 (Nat.le_of_ble_eq_true rfl)) wt_L34 rfl rfl rfl (Nat.le_of_ble_eq_true rfl) (by decide) wp_ap_set_d5 (fun hbq1 => ?_)
  refine wt_if_ne hE 15 wp_ap_set_d8 rfl (fun c2 => ?_) (fun c2 => ?_)
  · have h := wt_in c2 h
    refine wt_iconst hE (0 : Int32) wp_ap_set_d15 wt_ci_0 ?_
    exact wp_ap_set_B16_ok hE hR hD h
  · have h := wt_ip c2 h
    refine wt_iconst hE (1 : Int32) wp_ap_set_d11 wt_ci_1 ?_
    refine wt_goto hE 16 wp_ap_set_d12 rfl ?_
    exact wp_ap_set_B16_ok hE hR hD h
def wb42thm_prog_1_method_5_code_r3 : List (List Nat) := [4, 100, 172] :: []
def wb42thm_prog_1_method_5_code_r2 : List (List Nat) := [42, 180, 0, 29, 182, 0, 149, 154, 0, 14, 42, 180, 0, 12, 180, 0, 123, 16, 10, 100, 172, 42, 180, 0, 39, 180, 0, 141] :: wb42thm_prog_1_method_5_code_r3
def wb42thm_prog_1_method_5_code_r1 : List (List Nat) := [42, 180, 0, 12, 27, 182, 0, 116, 42, 180, 0, 39, 180, 0, 141, 16, 8, 161, 0, 5, 2, 172, 42, 180, 0, 39, 42, 180, 0, 12] :: wb42thm_prog_1_method_5_code_r2
def wb42thm_prog_1_method_5_code_r0 : List (List Nat) := [27, 155, 0, 21, 27, 42, 180, 0, 12, 180, 0, 105, 163, 0, 10, 27, 17, 0, 200, 164, 0, 7, 4, 167, 0, 4, 3, 184, 0, 112] :: wb42thm_prog_1_method_5_code_r1
set_option maxRecDepth 100000 in
theorem wb42thm_prog_1_method_5_code_c0 : wt_cs prog_1_method_5_code 0 wb42thm_prog_1_method_5_code_r0 := wt_cs_of (by decide +kernel)
theorem wb42thm_prog_1_method_5_code_c1 : wt_cs prog_1_method_5_code 30 wb42thm_prog_1_method_5_code_r1 := wt_cs_tl (m := 30) wb42thm_prog_1_method_5_code_c0 rfl rfl
theorem wb42thm_prog_1_method_5_code_c2 : wt_cs prog_1_method_5_code 60 wb42thm_prog_1_method_5_code_r2 := wt_cs_tl (m := 30) wb42thm_prog_1_method_5_code_c1 rfl rfl
theorem wb42thm_prog_1_method_5_code_c3 : wt_cs prog_1_method_5_code 88 wb42thm_prog_1_method_5_code_r3 := wt_cs_tl (m := 28) wb42thm_prog_1_method_5_code_c2 rfl rfl
theorem wp_ap_text_d0 : decode prog_1_method_5_code 0 = .ok (.iload_n 1, 1) := wt_op27 wb42thm_prog_1_method_5_code_c0 0 rfl rfl
theorem wp_ap_text_d1 : decode prog_1_method_5_code 1 = .ok (.ifCond .lt 21, 3) := wt_op155 wb42thm_prog_1_method_5_code_c0 1 rfl rfl rfl
theorem wp_ap_text_d4 : decode prog_1_method_5_code 4 = .ok (.iload_n 1, 1) := wt_op27 wb42thm_prog_1_method_5_code_c0 4 rfl rfl
theorem wp_ap_text_d5 : decode prog_1_method_5_code 5 = .ok (.aload_n 0, 1) := wt_op42 wb42thm_prog_1_method_5_code_c0 5 rfl rfl
theorem wp_ap_text_d6 : decode prog_1_method_5_code 6 = .ok (.getfield 12, 3) := wt_op180 wb42thm_prog_1_method_5_code_c0 6 rfl rfl rfl
theorem wp_ap_text_d9 : decode prog_1_method_5_code 9 = .ok (.getfield 105, 3) := wt_op180 wb42thm_prog_1_method_5_code_c0 9 rfl rfl rfl
theorem wp_ap_text_d12 : decode prog_1_method_5_code 12 = .ok (.if_icmp .gt 10, 3) := wt_op163 wb42thm_prog_1_method_5_code_c0 12 rfl rfl rfl
theorem wp_ap_text_d15 : decode prog_1_method_5_code 15 = .ok (.iload_n 1, 1) := wt_op27 wb42thm_prog_1_method_5_code_c0 15 rfl rfl
theorem wp_ap_text_d16 : decode prog_1_method_5_code 16 = .ok (.sipush 200, 3) := wt_op17 wb42thm_prog_1_method_5_code_c0 16 rfl rfl rfl
theorem wp_ap_text_d19 : decode prog_1_method_5_code 19 = .ok (.if_icmp .le 7, 3) := wt_op164 wb42thm_prog_1_method_5_code_c0 19 rfl rfl rfl
theorem wp_ap_text_d22 : decode prog_1_method_5_code 22 = .ok (.iconst 1, 1) := wt_op4 wb42thm_prog_1_method_5_code_c0 22 rfl rfl
theorem wp_ap_text_d23 : decode prog_1_method_5_code 23 = .ok (.goto 4, 3) := wt_op167 wb42thm_prog_1_method_5_code_c0 23 rfl rfl rfl
theorem wp_ap_text_d26 : decode prog_1_method_5_code 26 = .ok (.iconst 0, 1) := wt_op3 wb42thm_prog_1_method_5_code_c0 26 rfl rfl
theorem wp_ap_text_d27 : decode prog_1_method_5_code 27 = .ok (.invokestatic 112, 3) := wt_op184 wb42thm_prog_1_method_5_code_c0 27 rfl rfl rfl
theorem wp_ap_text_d30 : decode prog_1_method_5_code 30 = .ok (.aload_n 0, 1) := wt_op42 wb42thm_prog_1_method_5_code_c1 0 rfl rfl
theorem wp_ap_text_d31 : decode prog_1_method_5_code 31 = .ok (.getfield 12, 3) := wt_op180 wb42thm_prog_1_method_5_code_c1 1 rfl rfl rfl
theorem wp_ap_text_d34 : decode prog_1_method_5_code 34 = .ok (.iload_n 1, 1) := wt_op27 wb42thm_prog_1_method_5_code_c1 4 rfl rfl
theorem wp_ap_text_d35 : decode prog_1_method_5_code 35 = .ok (.invokevirtual 116, 3) := wt_op182 wb42thm_prog_1_method_5_code_c1 5 rfl rfl rfl
theorem wp_ap_text_d38 : decode prog_1_method_5_code 38 = .ok (.aload_n 0, 1) := wt_op42 wb42thm_prog_1_method_5_code_c1 8 rfl rfl
theorem wp_ap_text_d39 : decode prog_1_method_5_code 39 = .ok (.getfield 39, 3) := wt_op180 wb42thm_prog_1_method_5_code_c1 9 rfl rfl rfl
theorem wp_ap_text_d42 : decode prog_1_method_5_code 42 = .ok (.getfield 141, 3) := wt_op180 wb42thm_prog_1_method_5_code_c1 12 rfl rfl rfl
theorem wp_ap_text_d45 : decode prog_1_method_5_code 45 = .ok (.bipush 8, 2) := wt_op16 wb42thm_prog_1_method_5_code_c1 15 rfl rfl rfl
theorem wp_ap_text_d47 : decode prog_1_method_5_code 47 = .ok (.if_icmp .lt 5, 3) := wt_op161 wb42thm_prog_1_method_5_code_c1 17 rfl rfl rfl
theorem wp_ap_text_d50 : decode prog_1_method_5_code 50 = .ok (.iconst (-1), 1) := wt_op2 wb42thm_prog_1_method_5_code_c1 20 rfl rfl
theorem wp_ap_text_d51 : decode prog_1_method_5_code 51 = .ok (.ireturn, 1) := wt_op172 wb42thm_prog_1_method_5_code_c1 21 rfl rfl
theorem wp_ap_text_d52 : decode prog_1_method_5_code 52 = .ok (.aload_n 0, 1) := wt_op42 wb42thm_prog_1_method_5_code_c1 22 rfl rfl
theorem wp_ap_text_d53 : decode prog_1_method_5_code 53 = .ok (.getfield 39, 3) := wt_op180 wb42thm_prog_1_method_5_code_c1 23 rfl rfl rfl
theorem wp_ap_text_d56 : decode prog_1_method_5_code 56 = .ok (.aload_n 0, 1) := wt_op42 wb42thm_prog_1_method_5_code_c1 26 rfl rfl
theorem wp_ap_text_d57 : decode prog_1_method_5_code 57 = .ok (.getfield 12, 3) := wt_op180 wb42thm_prog_1_method_5_code_c1 27 rfl rfl rfl
theorem wp_ap_text_d60 : decode prog_1_method_5_code 60 = .ok (.aload_n 0, 1) := wt_op42 wb42thm_prog_1_method_5_code_c2 0 rfl rfl
theorem wp_ap_text_d61 : decode prog_1_method_5_code 61 = .ok (.getfield 29, 3) := wt_op180 wb42thm_prog_1_method_5_code_c2 1 rfl rfl rfl
theorem wp_ap_text_d64 : decode prog_1_method_5_code 64 = .ok (.invokevirtual 149, 3) := wt_op182 wb42thm_prog_1_method_5_code_c2 4 rfl rfl rfl
theorem wp_ap_text_d67 : decode prog_1_method_5_code 67 = .ok (.ifCond .ne 14, 3) := wt_op154 wb42thm_prog_1_method_5_code_c2 7 rfl rfl rfl
theorem wp_ap_text_d70 : decode prog_1_method_5_code 70 = .ok (.aload_n 0, 1) := wt_op42 wb42thm_prog_1_method_5_code_c2 10 rfl rfl
theorem wp_ap_text_d71 : decode prog_1_method_5_code 71 = .ok (.getfield 12, 3) := wt_op180 wb42thm_prog_1_method_5_code_c2 11 rfl rfl rfl
theorem wp_ap_text_d74 : decode prog_1_method_5_code 74 = .ok (.getfield 123, 3) := wt_op180 wb42thm_prog_1_method_5_code_c2 14 rfl rfl rfl
theorem wp_ap_text_d77 : decode prog_1_method_5_code 77 = .ok (.bipush 10, 2) := wt_op16 wb42thm_prog_1_method_5_code_c2 17 rfl rfl rfl
theorem wp_ap_text_d79 : decode prog_1_method_5_code 79 = .ok (.isub, 1) := wt_op100 wb42thm_prog_1_method_5_code_c2 19 rfl rfl
theorem wp_ap_text_d80 : decode prog_1_method_5_code 80 = .ok (.ireturn, 1) := wt_op172 wb42thm_prog_1_method_5_code_c2 20 rfl rfl
theorem wp_ap_text_d81 : decode prog_1_method_5_code 81 = .ok (.aload_n 0, 1) := wt_op42 wb42thm_prog_1_method_5_code_c2 21 rfl rfl
theorem wp_ap_text_d82 : decode prog_1_method_5_code 82 = .ok (.getfield 39, 3) := wt_op180 wb42thm_prog_1_method_5_code_c2 22 rfl rfl rfl
theorem wp_ap_text_d85 : decode prog_1_method_5_code 85 = .ok (.getfield 141, 3) := wt_op180 wb42thm_prog_1_method_5_code_c2 25 rfl rfl rfl
theorem wp_ap_text_d88 : decode prog_1_method_5_code 88 = .ok (.iconst 1, 1) := wt_op4 wb42thm_prog_1_method_5_code_c3 0 rfl rfl
theorem wp_ap_text_d89 : decode prog_1_method_5_code 89 = .ok (.isub, 1) := wt_op100 wb42thm_prog_1_method_5_code_c3 1 rfl rfl
theorem wp_ap_text_d90 : decode prog_1_method_5_code 90 = .ok (.ireturn, 1) := wt_op172 wb42thm_prog_1_method_5_code_c3 2 rfl rfl
noncomputable def wp_ap_text_B27 (n : Nat) (x1 : Int32) (y0 : Int32) (σ : wt_St) : Option (Nat × Int32 × wt_St) :=
  (wp_ap_refuse n y0 σ).bind fun q2 =>
  if q2.1 = 0 then
  (wp_tp_begin n x1 q2.2.2).bind fun q3 =>
  if (wt_gf q3 34 4) < (8 : Int32) then
    (wp_tx_fill n 20 q3).bind fun q5 =>
    if q5.1 = 0 then
      some (0, ((wt_gf q5.2 1 6) - (10 : Int32)), q5.2)
    else
      some (0, ((wt_gf q5.2 34 4) - (1 : Int32)), q5.2)
  else
    some (0, (-1 : Int32), q3)
  else some (q2.1, 0, q2.2.2)
set_option maxRecDepth 100000 in
set_option maxHeartbeats 4000000 in
theorem wp_ap_text_B27_ok  {x1 : Int32} {X : wt_X} {n : Nat} {res : Nat × Int32 × wt_St} (hE : wt_Ok X prog_1_method_5_code 2 "WornType" 7 8) (hR : wt_RtX X (some .int) 8 res.1 (some res.2.1) res.2.2) (hD : ∀ i, i < 108 → wt_dom (wt_xw X) i)  {σ : wt_St} {y0 : Int32} (h : wp_ap_text_B27 n x1 y0 σ = some res) : wt_V X 0 σ 27 [some (.ref (wt_ad (wt_xw X) 0)), some (.int x1)] [.int y0] := by
  unfold wp_ap_text_B27 at h
  obtain ⟨q2, hq2, h⟩ := wt_bi h
  refine wt_callSXv (mc := 8) (rt0 := (some .int)) hE [.int y0] wt_ld_ap_112 wt_ya_ap_refuse (wp_ap_refuse_ok hR.2.2.2 hq2) (by omega) rfl rfl (Nat.le_of_ble_eq_true rfl) (by decide) (by decide) wp_ap_text_d27 (fun he => ?_) (fun he => ?_)
  · have h := wt_in he h
    cases h
    exact ⟨_, hR⟩
  have h := wt_ip he h
  refine wt_aload_n hE wp_ap_text_d30 rfl ?_
  refine wt_getr hE (r := 1) wt_lf_ap_12 (hD 0 (Nat.le_of_ble_eq_true rfl)) wt_L0 rfl wp_ap_text_d31 ?_
  refine wt_iload_n hE wp_ap_text_d34 rfl ?_
  obtain ⟨q3, hq3, h⟩ := wt_bi h
  refine wt_callVv hE [.int x1] wt_lm_ap_116 wt_ya_tp_begin (wp_tp_begin_ok hD hq3) (by omega) (hD 1 (Nat.le_of_ble_eq_true rfl)) wt_L1 rfl rfl rfl (Nat.le_of_ble_eq_true rfl) (by decide) wp_ap_text_d35 ?_
  refine wt_aload_n hE wp_ap_text_d38 rfl ?_
  refine wt_getr hE (r := 34) wt_lf_ap_39 (hD 0 (Nat.le_of_ble_eq_true rfl)) wt_L0 rfl wp_ap_text_d39 ?_
  refine wt_geti hE wt_lf_ap_141 (hD 34 (Nat.le_of_ble_eq_true rfl)) wt_L34 rfl wp_ap_text_d42 ?_
  refine wt_bipush hE (8 : Int32) wp_ap_text_d45 wt_cb_8 ?_
  refine wt_icmp_lt hE 52 wp_ap_text_d47 rfl (fun c4 => ?_) (fun c4 => ?_)
  · have h := wt_ip c4 h
    refine wt_aload_n hE wp_ap_text_d52 rfl ?_
    refine wt_getr hE (r := 34) wt_lf_ap_39 (hD 0 (Nat.le_of_ble_eq_true rfl)) wt_L0 rfl wp_ap_text_d53 ?_
    refine wt_aload_n hE wp_ap_text_d56 rfl ?_
    refine wt_getr hE (r := 1) wt_lf_ap_12 (hD 0 (Nat.le_of_ble_eq_true rfl)) wt_L0 rfl wp_ap_text_d57 ?_
    refine wt_aload_n hE wp_ap_text_d60 rfl ?_
    refine wt_getr hE (r := 20) wt_lf_ap_29 (hD 0 (Nat.le_of_ble_eq_true rfl)) wt_L0 rfl wp_ap_text_d61 ?_
    obtain ⟨q5, hq5, h⟩ := wt_bi h
    refine wt_callVi hE [.ref (wt_ad (wt_xw X) 1), .ref (wt_ad (wt_xw X) 20)] wt_lm_ap_149 wt_ya_tx_fill (wp_tx_fill_ok hD wt_isTongue_20 (fun j hj => hD (20 + j) (by omega)) hq5) (by omega) (hD 34 (Nat.le_of_ble_eq_true rfl)) wt_L34 rfl rfl rfl (Nat.le_of_ble_eq_true rfl) (by decide) wp_ap_text_d64 (fun hbq5 => ?_)
    refine wt_if_ne hE 81 wp_ap_text_d67 rfl (fun c6 => ?_) (fun c6 => ?_)
    · have h := wt_in c6 h
      refine wt_aload_n hE wp_ap_text_d81 rfl ?_
      refine wt_getr hE (r := 34) wt_lf_ap_39 (hD 0 (Nat.le_of_ble_eq_true rfl)) wt_L0 rfl wp_ap_text_d82 ?_
      refine wt_geti hE wt_lf_ap_141 (hD 34 (Nat.le_of_ble_eq_true rfl)) wt_L34 rfl wp_ap_text_d85 ?_
      refine wt_iconst hE (1 : Int32) wp_ap_text_d88 wt_ci_1 ?_
      refine wt_isub hE wp_ap_text_d89 ?_
      cases h
      exact wt_iretX hE hR (by decide) wp_ap_text_d90
    · have h := wt_ip c6 h
      refine wt_aload_n hE wp_ap_text_d70 rfl ?_
      refine wt_getr hE (r := 1) wt_lf_ap_12 (hD 0 (Nat.le_of_ble_eq_true rfl)) wt_L0 rfl wp_ap_text_d71 ?_
      refine wt_geti hE wt_lf_ap_123 (hD 1 (Nat.le_of_ble_eq_true rfl)) wt_L1 rfl wp_ap_text_d74 ?_
      refine wt_bipush hE (10 : Int32) wp_ap_text_d77 wt_cb_10 ?_
      refine wt_isub hE wp_ap_text_d79 ?_
      cases h
      exact wt_iretX hE hR (by decide) wp_ap_text_d80
  · have h := wt_in c4 h
    refine wt_iconst hE (-1 : Int32) wp_ap_text_d50 wt_ci_m1 ?_
    cases h
    exact wt_iretX hE hR (by decide) wp_ap_text_d51
noncomputable def wp_ap_text_B22 (n : Nat) (x1 : Int32) (σ : wt_St) : Option (Nat × Int32 × wt_St) :=
  wp_ap_text_B27 n x1 (1 : Int32) σ
set_option maxRecDepth 100000 in
set_option maxHeartbeats 4000000 in
theorem wp_ap_text_B22_ok  {x1 : Int32} {X : wt_X} {n : Nat} {res : Nat × Int32 × wt_St} (hE : wt_Ok X prog_1_method_5_code 2 "WornType" 7 8) (hR : wt_RtX X (some .int) 8 res.1 (some res.2.1) res.2.2) (hD : ∀ i, i < 108 → wt_dom (wt_xw X) i)  {σ : wt_St} (h : wp_ap_text_B22 n x1 σ = some res) : wt_V X 0 σ 22 [some (.ref (wt_ad (wt_xw X) 0)), some (.int x1)] [] := by
  unfold wp_ap_text_B22 at h
  refine wt_iconst hE (1 : Int32) wp_ap_text_d22 wt_ci_1 ?_
  refine wt_goto hE 27 wp_ap_text_d23 rfl ?_
  exact wp_ap_text_B27_ok hE hR hD h
noncomputable def wp_ap_text (n : Nat) (x1 : Int32) (σ : wt_St) : Option (Nat × Int32 × wt_St) :=
  if x1 < 0 then
    wp_ap_text_B22 n x1 σ
  else
    if (wt_gf σ 1 2) < x1 then
      wp_ap_text_B22 n x1 σ
    else
      if x1 ≤ (200 : Int32) then
        wp_ap_text_B27 n x1 (0 : Int32) σ
      else
        wp_ap_text_B22 n x1 σ
set_option maxRecDepth 100000 in
set_option maxHeartbeats 4000000 in
theorem wp_ap_text_ok {l : Launch} (htr : l.stackTraces = false) {w : wt_E} {n : Nat} {x1 : Int32} (hD : ∀ i, i < 108 → wt_dom w i) {σ : wt_St} {q : Nat × Int32 × wt_St} (h : wp_ap_text n x1 σ = some q) : wt_CtrX l w wt_y_ap_text prog_1_method_5_code 2 (some .int) 7 8 [.ref (wt_ad w 0), .int x1] σ q.1 (some q.2.1) q.2.2 := by
  refine wt_ctrX htr wt_pl_ap_text rfl (Nat.le_of_ble_eq_true rfl) [some (.ref (wt_ad w 0)), some (.int x1)] rfl ?_
  intro X hXl hXw hE hR
  subst hXl
  subst hXw
  have hE : wt_Ok X prog_1_method_5_code 2 "WornType" 7 8 := hE
  unfold wp_ap_text at h
  refine wt_iload_n hE wp_ap_text_d0 rfl ?_
  refine wt_if_lt hE 22 wp_ap_text_d1 rfl (fun c1 => ?_) (fun c1 => ?_)
  · have h := wt_ip c1 h
    exact wp_ap_text_B22_ok hE hR hD h
  · have h := wt_in c1 h
    refine wt_iload_n hE wp_ap_text_d4 rfl ?_
    refine wt_aload_n hE wp_ap_text_d5 rfl ?_
    refine wt_getr hE (r := 1) wt_lf_ap_12 (hD 0 (Nat.le_of_ble_eq_true rfl)) wt_L0 rfl wp_ap_text_d6 ?_
    refine wt_geti hE wt_lf_ap_105 (hD 1 (Nat.le_of_ble_eq_true rfl)) wt_L1 rfl wp_ap_text_d9 ?_
    refine wt_icmp_gt hE 22 wp_ap_text_d12 rfl (fun c7 => ?_) (fun c7 => ?_)
    · have h := wt_ip c7 h
      exact wp_ap_text_B22_ok hE hR hD h
    · have h := wt_in c7 h
      refine wt_iload_n hE wp_ap_text_d15 rfl ?_
      refine wt_sipush hE (200 : Int32) wp_ap_text_d16 wt_cs_200 ?_
      refine wt_icmp_le hE 26 wp_ap_text_d19 rfl (fun c8 => ?_) (fun c8 => ?_)
      · have h := wt_ip c8 h
        refine wt_iconst hE (0 : Int32) wp_ap_text_d26 wt_ci_0 ?_
        exact wp_ap_text_B27_ok hE hR hD h
      · have h := wt_in c8 h
        exact wp_ap_text_B22_ok hE hR hD h
def wb42thm_prog_1_method_34_code_r0 : List (List Nat) := [27, 184, 0, 253, 42, 180, 0, 93, 27, 182, 1, 96, 172] :: []
set_option maxRecDepth 100000 in
theorem wb42thm_prog_1_method_34_code_c0 : wt_cs prog_1_method_34_code 0 wb42thm_prog_1_method_34_code_r0 := wt_cs_of (by decide +kernel)
theorem wp_ap_together_d0 : decode prog_1_method_34_code 0 = .ok (.iload_n 1, 1) := wt_op27 wb42thm_prog_1_method_34_code_c0 0 rfl rfl
theorem wp_ap_together_d1 : decode prog_1_method_34_code 1 = .ok (.invokestatic 253, 3) := wt_op184 wb42thm_prog_1_method_34_code_c0 1 rfl rfl rfl
theorem wp_ap_together_d4 : decode prog_1_method_34_code 4 = .ok (.aload_n 0, 1) := wt_op42 wb42thm_prog_1_method_34_code_c0 4 rfl rfl
theorem wp_ap_together_d5 : decode prog_1_method_34_code 5 = .ok (.getfield 93, 3) := wt_op180 wb42thm_prog_1_method_34_code_c0 5 rfl rfl rfl
theorem wp_ap_together_d8 : decode prog_1_method_34_code 8 = .ok (.iload_n 1, 1) := wt_op27 wb42thm_prog_1_method_34_code_c0 8 rfl rfl
theorem wp_ap_together_d9 : decode prog_1_method_34_code 9 = .ok (.invokevirtual 352, 3) := wt_op182 wb42thm_prog_1_method_34_code_c0 9 rfl rfl rfl
theorem wp_ap_together_d12 : decode prog_1_method_34_code 12 = .ok (.ireturn, 1) := wt_op172 wb42thm_prog_1_method_34_code_c0 12 rfl rfl
noncomputable def wp_ap_together (n : Nat) (x1 : Int32) (σ : wt_St) : Option (Nat × Int32 × wt_St) :=
  (wp_ap_refuseCopies n x1 σ).bind fun q1 =>
  if q1.1 = 0 then
  (wp_tr_mostAtOnce n x1 q1.2.2).bind fun q2 =>
  some (0, q2.1, q2.2)
  else some (q1.1, 0, q1.2.2)
set_option maxRecDepth 100000 in
set_option maxHeartbeats 4000000 in
theorem wp_ap_together_ok {l : Launch} (htr : l.stackTraces = false) {w : wt_E} {n : Nat} {x1 : Int32} (hD : ∀ i, i < 108 → wt_dom w i) {σ : wt_St} {q : Nat × Int32 × wt_St} (h : wp_ap_together n x1 σ = some q) : wt_CtrX l w wt_y_ap_together prog_1_method_34_code 2 (some .int) 8 8 [.ref (wt_ad w 0), .int x1] σ q.1 (some q.2.1) q.2.2 := by
  refine wt_ctrX htr wt_pl_ap_together rfl (Nat.le_of_ble_eq_true rfl) [some (.ref (wt_ad w 0)), some (.int x1)] rfl ?_
  intro X hXl hXw hE hR
  subst hXl
  subst hXw
  have hE : wt_Ok X prog_1_method_34_code 2 "WornType" 8 8 := hE
  unfold wp_ap_together at h
  refine wt_iload_n hE wp_ap_together_d0 rfl ?_
  obtain ⟨q1, hq1, h⟩ := wt_bi h
  refine wt_callSXv (mc := 8) (rt0 := (some .int)) hE [.int x1] wt_ld_ap_253 wt_ya_ap_refuseCopies (wp_ap_refuseCopies_ok hR.2.2.2 hq1) (by omega) rfl rfl (Nat.le_of_ble_eq_true rfl) (by decide) (by decide) wp_ap_together_d1 (fun he => ?_) (fun he => ?_)
  · have h := wt_in he h
    cases h
    exact ⟨_, hR⟩
  have h := wt_ip he h
  refine wt_aload_n hE wp_ap_together_d4 rfl ?_
  refine wt_getr hE (r := 101) wt_lf_ap_93 (hD 0 (Nat.le_of_ble_eq_true rfl)) wt_L0 rfl wp_ap_together_d5 ?_
  refine wt_iload_n hE wp_ap_together_d8 rfl ?_
  obtain ⟨q2, hq2, h⟩ := wt_bi h
  refine wt_callVi hE [.int x1] wt_lm_ap_352 wt_ya_tr_mostAtOnce (wp_tr_mostAtOnce_ok hD hq2) (by omega) (hD 101 (Nat.le_of_ble_eq_true rfl)) wt_L101 rfl rfl rfl (Nat.le_of_ble_eq_true rfl) (by decide) wp_ap_together_d9 (fun hbq2 => ?_)
  cases h
  exact wt_iretX hE hR (by decide) wp_ap_together_d12
def wb42thm_prog_1_method_7_code_r3 : List (List Nat) := [42, 180, 0, 29, 180, 0, 164, 172, 187, 0, 167, 89, 18, 169, 183, 0, 171, 191] :: []
def wb42thm_prog_1_method_7_code_r2 : List (List Nat) := [182, 0, 155, 172, 42, 180, 0, 46, 180, 0, 142, 172, 42, 180, 0, 19, 180, 0, 158, 172, 42, 180, 0, 46, 180, 0, 161, 172] :: wb42thm_prog_1_method_7_code_r3
def wb42thm_prog_1_method_7_code_r1 : List (List Nat) := [42, 180, 0, 59, 182, 0, 133, 172, 42, 180, 0, 29, 180, 0, 148, 172, 42, 180, 0, 39, 180, 0, 141, 172, 42, 180, 0, 68] :: wb42thm_prog_1_method_7_code_r2
def wb42thm_prog_1_method_7_code_r0 : List (List Nat) := [27, 170, 0, 0, 0, 0, 0, 111, 0, 0, 0, 0, 0, 0, 0, 7, 0, 0, 0, 47, 0, 0, 0, 55, 0, 0, 0, 63, 0, 0, 0, 71, 0, 0, 0, 79, 0, 0, 0, 87, 0, 0, 0, 95, 0, 0, 0, 103] :: wb42thm_prog_1_method_7_code_r1
set_option maxRecDepth 100000 in
theorem wb42thm_prog_1_method_7_code_c0 : wt_cs prog_1_method_7_code 0 wb42thm_prog_1_method_7_code_r0 := wt_cs_of (by decide +kernel)
theorem wb42thm_prog_1_method_7_code_c1 : wt_cs prog_1_method_7_code 48 wb42thm_prog_1_method_7_code_r1 := wt_cs_tl (m := 48) wb42thm_prog_1_method_7_code_c0 rfl rfl
theorem wb42thm_prog_1_method_7_code_c2 : wt_cs prog_1_method_7_code 76 wb42thm_prog_1_method_7_code_r2 := wt_cs_tl (m := 28) wb42thm_prog_1_method_7_code_c1 rfl rfl
theorem wb42thm_prog_1_method_7_code_c3 : wt_cs prog_1_method_7_code 104 wb42thm_prog_1_method_7_code_r3 := wt_cs_tl (m := 28) wb42thm_prog_1_method_7_code_c2 rfl rfl
theorem wp_ap_told_d0 : decode prog_1_method_7_code 0 = .ok (.iload_n 1, 1) := wt_op27 wb42thm_prog_1_method_7_code_c0 0 rfl rfl
theorem wp_ap_told_d1 : decode prog_1_method_7_code 1 = .ok (.tableswitch 111 0 7 #[47, 55, 63, 71, 79, 87, 95, 103], 47) := by decide +kernel
theorem wp_ap_told_d48 : decode prog_1_method_7_code 48 = .ok (.aload_n 0, 1) := wt_op42 wb42thm_prog_1_method_7_code_c1 0 rfl rfl
theorem wp_ap_told_d49 : decode prog_1_method_7_code 49 = .ok (.getfield 59, 3) := wt_op180 wb42thm_prog_1_method_7_code_c1 1 rfl rfl rfl
theorem wp_ap_told_d52 : decode prog_1_method_7_code 52 = .ok (.invokevirtual 133, 3) := wt_op182 wb42thm_prog_1_method_7_code_c1 4 rfl rfl rfl
theorem wp_ap_told_d55 : decode prog_1_method_7_code 55 = .ok (.ireturn, 1) := wt_op172 wb42thm_prog_1_method_7_code_c1 7 rfl rfl
theorem wp_ap_told_d56 : decode prog_1_method_7_code 56 = .ok (.aload_n 0, 1) := wt_op42 wb42thm_prog_1_method_7_code_c1 8 rfl rfl
theorem wp_ap_told_d57 : decode prog_1_method_7_code 57 = .ok (.getfield 29, 3) := wt_op180 wb42thm_prog_1_method_7_code_c1 9 rfl rfl rfl
theorem wp_ap_told_d60 : decode prog_1_method_7_code 60 = .ok (.getfield 148, 3) := wt_op180 wb42thm_prog_1_method_7_code_c1 12 rfl rfl rfl
theorem wp_ap_told_d63 : decode prog_1_method_7_code 63 = .ok (.ireturn, 1) := wt_op172 wb42thm_prog_1_method_7_code_c1 15 rfl rfl
theorem wp_ap_told_d64 : decode prog_1_method_7_code 64 = .ok (.aload_n 0, 1) := wt_op42 wb42thm_prog_1_method_7_code_c1 16 rfl rfl
theorem wp_ap_told_d65 : decode prog_1_method_7_code 65 = .ok (.getfield 39, 3) := wt_op180 wb42thm_prog_1_method_7_code_c1 17 rfl rfl rfl
theorem wp_ap_told_d68 : decode prog_1_method_7_code 68 = .ok (.getfield 141, 3) := wt_op180 wb42thm_prog_1_method_7_code_c1 20 rfl rfl rfl
theorem wp_ap_told_d71 : decode prog_1_method_7_code 71 = .ok (.ireturn, 1) := wt_op172 wb42thm_prog_1_method_7_code_c1 23 rfl rfl
theorem wp_ap_told_d72 : decode prog_1_method_7_code 72 = .ok (.aload_n 0, 1) := wt_op42 wb42thm_prog_1_method_7_code_c1 24 rfl rfl
theorem wp_ap_told_d73 : decode prog_1_method_7_code 73 = .ok (.getfield 68, 3) := wt_op180 wb42thm_prog_1_method_7_code_c1 25 rfl rfl rfl
theorem wp_ap_told_d76 : decode prog_1_method_7_code 76 = .ok (.invokevirtual 155, 3) := wt_op182 wb42thm_prog_1_method_7_code_c2 0 rfl rfl rfl
theorem wp_ap_told_d79 : decode prog_1_method_7_code 79 = .ok (.ireturn, 1) := wt_op172 wb42thm_prog_1_method_7_code_c2 3 rfl rfl
theorem wp_ap_told_d80 : decode prog_1_method_7_code 80 = .ok (.aload_n 0, 1) := wt_op42 wb42thm_prog_1_method_7_code_c2 4 rfl rfl
theorem wp_ap_told_d81 : decode prog_1_method_7_code 81 = .ok (.getfield 46, 3) := wt_op180 wb42thm_prog_1_method_7_code_c2 5 rfl rfl rfl
theorem wp_ap_told_d84 : decode prog_1_method_7_code 84 = .ok (.getfield 142, 3) := wt_op180 wb42thm_prog_1_method_7_code_c2 8 rfl rfl rfl
theorem wp_ap_told_d87 : decode prog_1_method_7_code 87 = .ok (.ireturn, 1) := wt_op172 wb42thm_prog_1_method_7_code_c2 11 rfl rfl
theorem wp_ap_told_d88 : decode prog_1_method_7_code 88 = .ok (.aload_n 0, 1) := wt_op42 wb42thm_prog_1_method_7_code_c2 12 rfl rfl
theorem wp_ap_told_d89 : decode prog_1_method_7_code 89 = .ok (.getfield 19, 3) := wt_op180 wb42thm_prog_1_method_7_code_c2 13 rfl rfl rfl
theorem wp_ap_told_d92 : decode prog_1_method_7_code 92 = .ok (.getfield 158, 3) := wt_op180 wb42thm_prog_1_method_7_code_c2 16 rfl rfl rfl
theorem wp_ap_told_d95 : decode prog_1_method_7_code 95 = .ok (.ireturn, 1) := wt_op172 wb42thm_prog_1_method_7_code_c2 19 rfl rfl
theorem wp_ap_told_d96 : decode prog_1_method_7_code 96 = .ok (.aload_n 0, 1) := wt_op42 wb42thm_prog_1_method_7_code_c2 20 rfl rfl
theorem wp_ap_told_d97 : decode prog_1_method_7_code 97 = .ok (.getfield 46, 3) := wt_op180 wb42thm_prog_1_method_7_code_c2 21 rfl rfl rfl
theorem wp_ap_told_d100 : decode prog_1_method_7_code 100 = .ok (.getfield 161, 3) := wt_op180 wb42thm_prog_1_method_7_code_c2 24 rfl rfl rfl
theorem wp_ap_told_d103 : decode prog_1_method_7_code 103 = .ok (.ireturn, 1) := wt_op172 wb42thm_prog_1_method_7_code_c2 27 rfl rfl
theorem wp_ap_told_d104 : decode prog_1_method_7_code 104 = .ok (.aload_n 0, 1) := wt_op42 wb42thm_prog_1_method_7_code_c3 0 rfl rfl
theorem wp_ap_told_d105 : decode prog_1_method_7_code 105 = .ok (.getfield 29, 3) := wt_op180 wb42thm_prog_1_method_7_code_c3 1 rfl rfl rfl
theorem wp_ap_told_d108 : decode prog_1_method_7_code 108 = .ok (.getfield 164, 3) := wt_op180 wb42thm_prog_1_method_7_code_c3 4 rfl rfl rfl
theorem wp_ap_told_d111 : decode prog_1_method_7_code 111 = .ok (.ireturn, 1) := wt_op172 wb42thm_prog_1_method_7_code_c3 7 rfl rfl
theorem wp_ap_told_d112 : decode prog_1_method_7_code 112 = .ok (.new 167, 3) := wt_op187 wb42thm_prog_1_method_7_code_c3 8 rfl rfl rfl
theorem wp_ap_told_d115 : decode prog_1_method_7_code 115 = .ok (.dup, 1) := wt_op89 wb42thm_prog_1_method_7_code_c3 11 rfl rfl
theorem wp_ap_told_d116 : decode prog_1_method_7_code 116 = .ok (.ldc 169, 2) := wt_op18 wb42thm_prog_1_method_7_code_c3 12 rfl rfl
theorem wp_ap_told_d118 : decode prog_1_method_7_code 118 = .ok (.invokespecial 171, 3) := wt_op183 wb42thm_prog_1_method_7_code_c3 14 rfl rfl rfl
theorem wp_ap_told_d121 : decode prog_1_method_7_code 121 = .ok (.athrow, 1) := wt_op191 wb42thm_prog_1_method_7_code_c3 17 rfl rfl
noncomputable def wp_ap_told (n : Nat) (x1 : Int32) (σ : wt_St) : Option (Nat × Int32 × wt_St) :=
  if x1 = (0 : Int32) then
    (wp_sk_piecesOfAll n σ).bind fun q2 =>
    some (0, q2.1, q2.2)
  else if x1 = (1 : Int32) then
    some (0, (wt_gf σ 20 6), σ)
  else if x1 = (2 : Int32) then
    some (0, (wt_gf σ 34 4), σ)
  else if x1 = (3 : Int32) then
    (wp_pg_standing n σ).bind fun q6 =>
    some (0, q6.1, q6.2)
  else if x1 = (4 : Int32) then
    some (0, (wt_gf σ 39 8), σ)
  else if x1 = (5 : Int32) then
    some (0, (wt_gf σ 4 7), σ)
  else if x1 = (6 : Int32) then
    some (0, (wt_gf σ 39 9), σ)
  else if x1 = (7 : Int32) then
    some (0, (wt_gf σ 20 7), σ)
  else some (1, 0, σ)
set_option maxRecDepth 100000 in
set_option maxHeartbeats 4000000 in
theorem wp_ap_told_ok {l : Launch} (htr : l.stackTraces = false) {w : wt_E} {n : Nat} {x1 : Int32} (hD : ∀ i, i < 108 → wt_dom w i) {σ : wt_St} {q : Nat × Int32 × wt_St} (h : wp_ap_told n x1 σ = some q) : wt_CtrX l w wt_y_ap_told prog_1_method_7_code 2 (some .int) 6 8 [.ref (wt_ad w 0), .int x1] σ q.1 (some q.2.1) q.2.2 := by
  refine wt_ctrX htr wt_pl_ap_told rfl (Nat.le_of_ble_eq_true rfl) [some (.ref (wt_ad w 0)), some (.int x1)] rfl ?_
  intro X hXl hXw hE hR
  subst hXl
  subst hXw
  have hE : wt_Ok X prog_1_method_7_code 2 "WornType" 6 8 := hE
  unfold wp_ap_told at h
  refine wt_iload_n hE wp_ap_told_d0 rfl ?_
  by_cases c1 : x1 = (0 : Int32)
  · have h := wt_ip c1 h
    refine wt_tsIn hE (off := 47) 48 c1 wp_ap_told_d1 (by decide) (by decide) (by decide) rfl ?_
    refine wt_aload_n hE wp_ap_told_d48 rfl ?_
    refine wt_getr hE (r := 76) wt_lf_ap_59 (hD 0 (Nat.le_of_ble_eq_true rfl)) wt_L0 rfl wp_ap_told_d49 ?_
    obtain ⟨q2, hq2, h⟩ := wt_bi h
    refine wt_callVi hE [] wt_lm_ap_133 wt_ya_sk_piecesOfAll (wp_sk_piecesOfAll_ok hD hq2) (by omega) (hD 76 (Nat.le_of_ble_eq_true rfl)) wt_L76 rfl rfl rfl (Nat.le_of_ble_eq_true rfl) (by decide) wp_ap_told_d52 (fun hbq2 => ?_)
    cases h
    exact wt_iretX hE hR (by decide) wp_ap_told_d55
  have h := wt_in c1 h
  by_cases c3 : x1 = (1 : Int32)
  · have h := wt_ip c3 h
    refine wt_tsIn hE (off := 55) 56 c3 wp_ap_told_d1 (by decide) (by decide) (by decide) rfl ?_
    refine wt_aload_n hE wp_ap_told_d56 rfl ?_
    refine wt_getr hE (r := 20) wt_lf_ap_29 (hD 0 (Nat.le_of_ble_eq_true rfl)) wt_L0 rfl wp_ap_told_d57 ?_
    refine wt_geti hE wt_lf_ap_148 (hD 20 (Nat.le_of_ble_eq_true rfl)) wt_L20 rfl wp_ap_told_d60 ?_
    cases h
    exact wt_iretX hE hR (by decide) wp_ap_told_d63
  have h := wt_in c3 h
  by_cases c4 : x1 = (2 : Int32)
  · have h := wt_ip c4 h
    refine wt_tsIn hE (off := 63) 64 c4 wp_ap_told_d1 (by decide) (by decide) (by decide) rfl ?_
    refine wt_aload_n hE wp_ap_told_d64 rfl ?_
    refine wt_getr hE (r := 34) wt_lf_ap_39 (hD 0 (Nat.le_of_ble_eq_true rfl)) wt_L0 rfl wp_ap_told_d65 ?_
    refine wt_geti hE wt_lf_ap_141 (hD 34 (Nat.le_of_ble_eq_true rfl)) wt_L34 rfl wp_ap_told_d68 ?_
    cases h
    exact wt_iretX hE hR (by decide) wp_ap_told_d71
  have h := wt_in c4 h
  by_cases c5 : x1 = (3 : Int32)
  · have h := wt_ip c5 h
    refine wt_tsIn hE (off := 71) 72 c5 wp_ap_told_d1 (by decide) (by decide) (by decide) rfl ?_
    refine wt_aload_n hE wp_ap_told_d72 rfl ?_
    refine wt_getr hE (r := 77) wt_lf_ap_68 (hD 0 (Nat.le_of_ble_eq_true rfl)) wt_L0 rfl wp_ap_told_d73 ?_
    obtain ⟨q6, hq6, h⟩ := wt_bi h
    refine wt_callVi hE [] wt_lm_ap_155 wt_ya_pg_standing (wp_pg_standing_ok hD hq6) (by omega) (hD 77 (Nat.le_of_ble_eq_true rfl)) wt_L77 rfl rfl rfl (Nat.le_of_ble_eq_true rfl) (by decide) wp_ap_told_d76 (fun hbq6 => ?_)
    cases h
    exact wt_iretX hE hR (by decide) wp_ap_told_d79
  have h := wt_in c5 h
  by_cases c7 : x1 = (4 : Int32)
  · have h := wt_ip c7 h
    refine wt_tsIn hE (off := 79) 80 c7 wp_ap_told_d1 (by decide) (by decide) (by decide) rfl ?_
    refine wt_aload_n hE wp_ap_told_d80 rfl ?_
    refine wt_getr hE (r := 39) wt_lf_ap_46 (hD 0 (Nat.le_of_ble_eq_true rfl)) wt_L0 rfl wp_ap_told_d81 ?_
    refine wt_geti hE wt_lf_ap_142 (hD 39 (Nat.le_of_ble_eq_true rfl)) wt_L39 rfl wp_ap_told_d84 ?_
    cases h
    exact wt_iretX hE hR (by decide) wp_ap_told_d87
  have h := wt_in c7 h
  by_cases c8 : x1 = (5 : Int32)
  · have h := wt_ip c8 h
    refine wt_tsIn hE (off := 87) 88 c8 wp_ap_told_d1 (by decide) (by decide) (by decide) rfl ?_
    refine wt_aload_n hE wp_ap_told_d88 rfl ?_
    refine wt_getr hE (r := 4) wt_lf_ap_19 (hD 0 (Nat.le_of_ble_eq_true rfl)) wt_L0 rfl wp_ap_told_d89 ?_
    refine wt_geti hE wt_lf_ap_158 (hD 4 (Nat.le_of_ble_eq_true rfl)) wt_L4 rfl wp_ap_told_d92 ?_
    cases h
    exact wt_iretX hE hR (by decide) wp_ap_told_d95
  have h := wt_in c8 h
  by_cases c9 : x1 = (6 : Int32)
  · have h := wt_ip c9 h
    refine wt_tsIn hE (off := 95) 96 c9 wp_ap_told_d1 (by decide) (by decide) (by decide) rfl ?_
    refine wt_aload_n hE wp_ap_told_d96 rfl ?_
    refine wt_getr hE (r := 39) wt_lf_ap_46 (hD 0 (Nat.le_of_ble_eq_true rfl)) wt_L0 rfl wp_ap_told_d97 ?_
    refine wt_geti hE wt_lf_ap_161 (hD 39 (Nat.le_of_ble_eq_true rfl)) wt_L39 rfl wp_ap_told_d100 ?_
    cases h
    exact wt_iretX hE hR (by decide) wp_ap_told_d103
  have h := wt_in c9 h
  by_cases c10 : x1 = (7 : Int32)
  · have h := wt_ip c10 h
    refine wt_tsIn hE (off := 103) 104 c10 wp_ap_told_d1 (by decide) (by decide) (by decide) rfl ?_
    refine wt_aload_n hE wp_ap_told_d104 rfl ?_
    refine wt_getr hE (r := 20) wt_lf_ap_29 (hD 0 (Nat.le_of_ble_eq_true rfl)) wt_L0 rfl wp_ap_told_d105 ?_
    refine wt_geti hE wt_lf_ap_164 (hD 20 (Nat.le_of_ble_eq_true rfl)) wt_L20 rfl wp_ap_told_d108 ?_
    cases h
    exact wt_iretX hE hR (by decide) wp_ap_told_d111
  have h := wt_in c10 h
  refine wt_tsOut hE 8 112 rfl (by decide) (fun j hj => ?_) wp_ap_told_d1 rfl ?_
  · rcases (show j = 0 ∨ j = 1 ∨ j = 2 ∨ j = 3 ∨ j = 4 ∨ j = 5 ∨ j = 6 ∨ j = 7 by omega) with rfl | rfl | rfl | rfl | rfl | rfl | rfl | rfl
    · exact c1
    · exact c3
    · exact c4
    · exact c5
    · exact c7
    · exact c8
    · exact c9
    · exact c10
  cases h
  exact wt_thrI hE hR 0 rfl (by omega) (by decide) (by decide) (Nat.le_of_ble_eq_true rfl) wp_ap_told_d112 wp_ap_told_d115 wp_ap_told_d116 wp_ap_told_d118 wp_ap_told_d121
def wb42thm_prog_1_method_4_code_r3 : List (List Nat) := [180, 0, 46, 182, 0, 145, 42, 3, 181, 0, 101, 42, 180, 0, 29, 180, 0, 148, 172] :: []
def wb42thm_prog_1_method_4_code_r2 : List (List Nat) := [42, 180, 0, 29, 42, 180, 0, 33, 182, 0, 138, 42, 180, 0, 39, 3, 181, 0, 141, 42, 180, 0, 46, 3, 181, 0, 142, 42] :: wb42thm_prog_1_method_4_code_r3
def wb42thm_prog_1_method_4_code_r1 : List (List Nat) := [182, 0, 116, 42, 180, 0, 33, 42, 180, 0, 12, 182, 0, 137, 154, 0, 14, 42, 180, 0, 12, 180, 0, 123, 16, 10, 100, 172] :: wb42thm_prog_1_method_4_code_r2
def wb42thm_prog_1_method_4_code_r0 : List (List Nat) := [27, 155, 0, 14, 27, 42, 180, 0, 12, 180, 0, 105, 164, 0, 7, 4, 167, 0, 4, 3, 184, 0, 112, 42, 180, 0, 12, 27] :: wb42thm_prog_1_method_4_code_r1
set_option maxRecDepth 100000 in
theorem wb42thm_prog_1_method_4_code_c0 : wt_cs prog_1_method_4_code 0 wb42thm_prog_1_method_4_code_r0 := wt_cs_of (by decide +kernel)
theorem wb42thm_prog_1_method_4_code_c1 : wt_cs prog_1_method_4_code 28 wb42thm_prog_1_method_4_code_r1 := wt_cs_tl (m := 28) wb42thm_prog_1_method_4_code_c0 rfl rfl
theorem wb42thm_prog_1_method_4_code_c2 : wt_cs prog_1_method_4_code 56 wb42thm_prog_1_method_4_code_r2 := wt_cs_tl (m := 28) wb42thm_prog_1_method_4_code_c1 rfl rfl
theorem wb42thm_prog_1_method_4_code_c3 : wt_cs prog_1_method_4_code 84 wb42thm_prog_1_method_4_code_r3 := wt_cs_tl (m := 28) wb42thm_prog_1_method_4_code_c2 rfl rfl
theorem wp_ap_tongue_d0 : decode prog_1_method_4_code 0 = .ok (.iload_n 1, 1) := wt_op27 wb42thm_prog_1_method_4_code_c0 0 rfl rfl
theorem wp_ap_tongue_d1 : decode prog_1_method_4_code 1 = .ok (.ifCond .lt 14, 3) := wt_op155 wb42thm_prog_1_method_4_code_c0 1 rfl rfl rfl
theorem wp_ap_tongue_d4 : decode prog_1_method_4_code 4 = .ok (.iload_n 1, 1) := wt_op27 wb42thm_prog_1_method_4_code_c0 4 rfl rfl
theorem wp_ap_tongue_d5 : decode prog_1_method_4_code 5 = .ok (.aload_n 0, 1) := wt_op42 wb42thm_prog_1_method_4_code_c0 5 rfl rfl
theorem wp_ap_tongue_d6 : decode prog_1_method_4_code 6 = .ok (.getfield 12, 3) := wt_op180 wb42thm_prog_1_method_4_code_c0 6 rfl rfl rfl
theorem wp_ap_tongue_d9 : decode prog_1_method_4_code 9 = .ok (.getfield 105, 3) := wt_op180 wb42thm_prog_1_method_4_code_c0 9 rfl rfl rfl
theorem wp_ap_tongue_d12 : decode prog_1_method_4_code 12 = .ok (.if_icmp .le 7, 3) := wt_op164 wb42thm_prog_1_method_4_code_c0 12 rfl rfl rfl
theorem wp_ap_tongue_d15 : decode prog_1_method_4_code 15 = .ok (.iconst 1, 1) := wt_op4 wb42thm_prog_1_method_4_code_c0 15 rfl rfl
theorem wp_ap_tongue_d16 : decode prog_1_method_4_code 16 = .ok (.goto 4, 3) := wt_op167 wb42thm_prog_1_method_4_code_c0 16 rfl rfl rfl
theorem wp_ap_tongue_d19 : decode prog_1_method_4_code 19 = .ok (.iconst 0, 1) := wt_op3 wb42thm_prog_1_method_4_code_c0 19 rfl rfl
theorem wp_ap_tongue_d20 : decode prog_1_method_4_code 20 = .ok (.invokestatic 112, 3) := wt_op184 wb42thm_prog_1_method_4_code_c0 20 rfl rfl rfl
theorem wp_ap_tongue_d23 : decode prog_1_method_4_code 23 = .ok (.aload_n 0, 1) := wt_op42 wb42thm_prog_1_method_4_code_c0 23 rfl rfl
theorem wp_ap_tongue_d24 : decode prog_1_method_4_code 24 = .ok (.getfield 12, 3) := wt_op180 wb42thm_prog_1_method_4_code_c0 24 rfl rfl rfl
theorem wp_ap_tongue_d27 : decode prog_1_method_4_code 27 = .ok (.iload_n 1, 1) := wt_op27 wb42thm_prog_1_method_4_code_c0 27 rfl rfl
theorem wp_ap_tongue_d28 : decode prog_1_method_4_code 28 = .ok (.invokevirtual 116, 3) := wt_op182 wb42thm_prog_1_method_4_code_c1 0 rfl rfl rfl
theorem wp_ap_tongue_d31 : decode prog_1_method_4_code 31 = .ok (.aload_n 0, 1) := wt_op42 wb42thm_prog_1_method_4_code_c1 3 rfl rfl
theorem wp_ap_tongue_d32 : decode prog_1_method_4_code 32 = .ok (.getfield 33, 3) := wt_op180 wb42thm_prog_1_method_4_code_c1 4 rfl rfl rfl
theorem wp_ap_tongue_d35 : decode prog_1_method_4_code 35 = .ok (.aload_n 0, 1) := wt_op42 wb42thm_prog_1_method_4_code_c1 7 rfl rfl
theorem wp_ap_tongue_d36 : decode prog_1_method_4_code 36 = .ok (.getfield 12, 3) := wt_op180 wb42thm_prog_1_method_4_code_c1 8 rfl rfl rfl
theorem wp_ap_tongue_d39 : decode prog_1_method_4_code 39 = .ok (.invokevirtual 137, 3) := wt_op182 wb42thm_prog_1_method_4_code_c1 11 rfl rfl rfl
theorem wp_ap_tongue_d42 : decode prog_1_method_4_code 42 = .ok (.ifCond .ne 14, 3) := wt_op154 wb42thm_prog_1_method_4_code_c1 14 rfl rfl rfl
theorem wp_ap_tongue_d45 : decode prog_1_method_4_code 45 = .ok (.aload_n 0, 1) := wt_op42 wb42thm_prog_1_method_4_code_c1 17 rfl rfl
theorem wp_ap_tongue_d46 : decode prog_1_method_4_code 46 = .ok (.getfield 12, 3) := wt_op180 wb42thm_prog_1_method_4_code_c1 18 rfl rfl rfl
theorem wp_ap_tongue_d49 : decode prog_1_method_4_code 49 = .ok (.getfield 123, 3) := wt_op180 wb42thm_prog_1_method_4_code_c1 21 rfl rfl rfl
theorem wp_ap_tongue_d52 : decode prog_1_method_4_code 52 = .ok (.bipush 10, 2) := wt_op16 wb42thm_prog_1_method_4_code_c1 24 rfl rfl rfl
theorem wp_ap_tongue_d54 : decode prog_1_method_4_code 54 = .ok (.isub, 1) := wt_op100 wb42thm_prog_1_method_4_code_c1 26 rfl rfl
theorem wp_ap_tongue_d55 : decode prog_1_method_4_code 55 = .ok (.ireturn, 1) := wt_op172 wb42thm_prog_1_method_4_code_c1 27 rfl rfl
theorem wp_ap_tongue_d56 : decode prog_1_method_4_code 56 = .ok (.aload_n 0, 1) := wt_op42 wb42thm_prog_1_method_4_code_c2 0 rfl rfl
theorem wp_ap_tongue_d57 : decode prog_1_method_4_code 57 = .ok (.getfield 29, 3) := wt_op180 wb42thm_prog_1_method_4_code_c2 1 rfl rfl rfl
theorem wp_ap_tongue_d60 : decode prog_1_method_4_code 60 = .ok (.aload_n 0, 1) := wt_op42 wb42thm_prog_1_method_4_code_c2 4 rfl rfl
theorem wp_ap_tongue_d61 : decode prog_1_method_4_code 61 = .ok (.getfield 33, 3) := wt_op180 wb42thm_prog_1_method_4_code_c2 5 rfl rfl rfl
theorem wp_ap_tongue_d64 : decode prog_1_method_4_code 64 = .ok (.invokevirtual 138, 3) := wt_op182 wb42thm_prog_1_method_4_code_c2 8 rfl rfl rfl
theorem wp_ap_tongue_d67 : decode prog_1_method_4_code 67 = .ok (.aload_n 0, 1) := wt_op42 wb42thm_prog_1_method_4_code_c2 11 rfl rfl
theorem wp_ap_tongue_d68 : decode prog_1_method_4_code 68 = .ok (.getfield 39, 3) := wt_op180 wb42thm_prog_1_method_4_code_c2 12 rfl rfl rfl
theorem wp_ap_tongue_d71 : decode prog_1_method_4_code 71 = .ok (.iconst 0, 1) := wt_op3 wb42thm_prog_1_method_4_code_c2 15 rfl rfl
theorem wp_ap_tongue_d72 : decode prog_1_method_4_code 72 = .ok (.putfield 141, 3) := wt_op181 wb42thm_prog_1_method_4_code_c2 16 rfl rfl rfl
theorem wp_ap_tongue_d75 : decode prog_1_method_4_code 75 = .ok (.aload_n 0, 1) := wt_op42 wb42thm_prog_1_method_4_code_c2 19 rfl rfl
theorem wp_ap_tongue_d76 : decode prog_1_method_4_code 76 = .ok (.getfield 46, 3) := wt_op180 wb42thm_prog_1_method_4_code_c2 20 rfl rfl rfl
theorem wp_ap_tongue_d79 : decode prog_1_method_4_code 79 = .ok (.iconst 0, 1) := wt_op3 wb42thm_prog_1_method_4_code_c2 23 rfl rfl
theorem wp_ap_tongue_d80 : decode prog_1_method_4_code 80 = .ok (.putfield 142, 3) := wt_op181 wb42thm_prog_1_method_4_code_c2 24 rfl rfl rfl
theorem wp_ap_tongue_d83 : decode prog_1_method_4_code 83 = .ok (.aload_n 0, 1) := wt_op42 wb42thm_prog_1_method_4_code_c2 27 rfl rfl
theorem wp_ap_tongue_d84 : decode prog_1_method_4_code 84 = .ok (.getfield 46, 3) := wt_op180 wb42thm_prog_1_method_4_code_c3 0 rfl rfl rfl
theorem wp_ap_tongue_d87 : decode prog_1_method_4_code 87 = .ok (.invokevirtual 145, 3) := wt_op182 wb42thm_prog_1_method_4_code_c3 3 rfl rfl rfl
theorem wp_ap_tongue_d90 : decode prog_1_method_4_code 90 = .ok (.aload_n 0, 1) := wt_op42 wb42thm_prog_1_method_4_code_c3 6 rfl rfl
theorem wp_ap_tongue_d91 : decode prog_1_method_4_code 91 = .ok (.iconst 0, 1) := wt_op3 wb42thm_prog_1_method_4_code_c3 7 rfl rfl
theorem wp_ap_tongue_d92 : decode prog_1_method_4_code 92 = .ok (.putfield 101, 3) := wt_op181 wb42thm_prog_1_method_4_code_c3 8 rfl rfl rfl
theorem wp_ap_tongue_d95 : decode prog_1_method_4_code 95 = .ok (.aload_n 0, 1) := wt_op42 wb42thm_prog_1_method_4_code_c3 11 rfl rfl
theorem wp_ap_tongue_d96 : decode prog_1_method_4_code 96 = .ok (.getfield 29, 3) := wt_op180 wb42thm_prog_1_method_4_code_c3 12 rfl rfl rfl
theorem wp_ap_tongue_d99 : decode prog_1_method_4_code 99 = .ok (.getfield 148, 3) := wt_op180 wb42thm_prog_1_method_4_code_c3 15 rfl rfl rfl
theorem wp_ap_tongue_d102 : decode prog_1_method_4_code 102 = .ok (.ireturn, 1) := wt_op172 wb42thm_prog_1_method_4_code_c3 18 rfl rfl
noncomputable def wp_ap_tongue_B20 (n : Nat) (x1 : Int32) (y0 : Int32) (σ : wt_St) : Option (Nat × Int32 × wt_St) :=
  (wp_ap_refuse n y0 σ).bind fun q2 =>
  if q2.1 = 0 then
  (wp_tp_begin n x1 q2.2.2).bind fun q3 =>
  (wp_tg_fill n 27 q3).bind fun q4 =>
  if q4.1 = 0 then
    some (0, ((wt_gf q4.2 1 6) - (10 : Int32)), q4.2)
  else
    (wp_tg_become n 20 27 q4.2).bind fun q6 =>
    (wp_st_clearPages n 39 (wt_sf (wt_sf q6 34 4 (0 : Int32)) 39 8 (0 : Int32))).bind fun q7 =>
    some (0, (wt_gf (wt_sf q7 0 14 (0 : Int32)) 20 6), (wt_sf q7 0 14 (0 : Int32)))
  else some (q2.1, 0, q2.2.2)
set_option maxRecDepth 100000 in
set_option maxHeartbeats 4000000 in
theorem wp_ap_tongue_B20_ok  {x1 : Int32} {X : wt_X} {n : Nat} {res : Nat × Int32 × wt_St} (hE : wt_Ok X prog_1_method_4_code 2 "WornType" 7 8) (hR : wt_RtX X (some .int) 8 res.1 (some res.2.1) res.2.2) (hD : ∀ i, i < 108 → wt_dom (wt_xw X) i)  {σ : wt_St} {y0 : Int32} (h : wp_ap_tongue_B20 n x1 y0 σ = some res) : wt_V X 0 σ 20 [some (.ref (wt_ad (wt_xw X) 0)), some (.int x1)] [.int y0] := by
  unfold wp_ap_tongue_B20 at h
  obtain ⟨q2, hq2, h⟩ := wt_bi h
  refine wt_callSXv (mc := 8) (rt0 := (some .int)) hE [.int y0] wt_ld_ap_112 wt_ya_ap_refuse (wp_ap_refuse_ok hR.2.2.2 hq2) (by omega) rfl rfl (Nat.le_of_ble_eq_true rfl) (by decide) (by decide) wp_ap_tongue_d20 (fun he => ?_) (fun he => ?_)
  · have h := wt_in he h
    cases h
    exact ⟨_, hR⟩
  have h := wt_ip he h
  refine wt_aload_n hE wp_ap_tongue_d23 rfl ?_
  refine wt_getr hE (r := 1) wt_lf_ap_12 (hD 0 (Nat.le_of_ble_eq_true rfl)) wt_L0 rfl wp_ap_tongue_d24 ?_
  refine wt_iload_n hE wp_ap_tongue_d27 rfl ?_
  obtain ⟨q3, hq3, h⟩ := wt_bi h
  refine wt_callVv hE [.int x1] wt_lm_ap_116 wt_ya_tp_begin (wp_tp_begin_ok hD hq3) (by omega) (hD 1 (Nat.le_of_ble_eq_true rfl)) wt_L1 rfl rfl rfl (Nat.le_of_ble_eq_true rfl) (by decide) wp_ap_tongue_d28 ?_
  refine wt_aload_n hE wp_ap_tongue_d31 rfl ?_
  refine wt_getr hE (r := 27) wt_lf_ap_33 (hD 0 (Nat.le_of_ble_eq_true rfl)) wt_L0 rfl wp_ap_tongue_d32 ?_
  refine wt_aload_n hE wp_ap_tongue_d35 rfl ?_
  refine wt_getr hE (r := 1) wt_lf_ap_12 (hD 0 (Nat.le_of_ble_eq_true rfl)) wt_L0 rfl wp_ap_tongue_d36 ?_
  obtain ⟨q4, hq4, h⟩ := wt_bi h
  refine wt_callVi hE [.ref (wt_ad (wt_xw X) 1)] wt_lm_ap_137 wt_ya_tg_fill (wp_tg_fill_ok hD wt_isTongue_27 (fun j hj => hD (27 + j) (by omega)) hq4) (by omega) (hD 27 (Nat.le_of_ble_eq_true rfl)) wt_L27 rfl rfl rfl (Nat.le_of_ble_eq_true rfl) (by decide) wp_ap_tongue_d39 (fun hbq4 => ?_)
  refine wt_if_ne hE 56 wp_ap_tongue_d42 rfl (fun c5 => ?_) (fun c5 => ?_)
  · have h := wt_in c5 h
    refine wt_aload_n hE wp_ap_tongue_d56 rfl ?_
    refine wt_getr hE (r := 20) wt_lf_ap_29 (hD 0 (Nat.le_of_ble_eq_true rfl)) wt_L0 rfl wp_ap_tongue_d57 ?_
    refine wt_aload_n hE wp_ap_tongue_d60 rfl ?_
    refine wt_getr hE (r := 27) wt_lf_ap_33 (hD 0 (Nat.le_of_ble_eq_true rfl)) wt_L0 rfl wp_ap_tongue_d61 ?_
    obtain ⟨q6, hq6, h⟩ := wt_bi h
    refine wt_callVv hE [.ref (wt_ad (wt_xw X) 27)] wt_lm_ap_138 wt_ya_tg_become (wp_tg_become_ok wt_isTongue_20 (fun j hj => hD (20 + j) (by omega)) wt_isTongue_27 (fun j hj => hD (27 + j) (by omega)) hq6) (by omega) (hD 20 (Nat.le_of_ble_eq_true rfl)) wt_L20 rfl rfl rfl (Nat.le_of_ble_eq_true rfl) (by decide) wp_ap_tongue_d64 ?_
    refine wt_aload_n hE wp_ap_tongue_d67 rfl ?_
    refine wt_getr hE (r := 34) wt_lf_ap_39 (hD 0 (Nat.le_of_ble_eq_true rfl)) wt_L0 rfl wp_ap_tongue_d68 ?_
    refine wt_iconst hE (0 : Int32) wp_ap_tongue_d71 wt_ci_0 ?_
    refine wt_puti hE wt_lf_ap_141 (hD 34 (Nat.le_of_ble_eq_true rfl)) wt_L34 rfl (fun q hq => by cases hq; rfl) wp_ap_tongue_d72 ?_
    refine wt_aload_n hE wp_ap_tongue_d75 rfl ?_
    refine wt_getr hE (r := 39) wt_lf_ap_46 (hD 0 (Nat.le_of_ble_eq_true rfl)) wt_L0 rfl wp_ap_tongue_d76 ?_
    refine wt_iconst hE (0 : Int32) wp_ap_tongue_d79 wt_ci_0 ?_
    refine wt_puti hE wt_lf_ap_142 (hD 39 (Nat.le_of_ble_eq_true rfl)) wt_L39 rfl (fun q hq => by cases hq; rfl) wp_ap_tongue_d80 ?_
    refine wt_aload_n hE wp_ap_tongue_d83 rfl ?_
    refine wt_getr hE (r := 39) wt_lf_ap_46 (hD 0 (Nat.le_of_ble_eq_true rfl)) wt_L0 rfl wp_ap_tongue_d84 ?_
    obtain ⟨q7, hq7, h⟩ := wt_bi h
    refine wt_callVv hE [] wt_lm_ap_145 wt_ya_st_clearPages (wp_st_clearPages_ok wt_isState_39 (fun j hj => hD (39 + j) (by omega)) hq7) (by omega) (hD 39 (Nat.le_of_ble_eq_true rfl)) wt_L39 rfl rfl rfl (Nat.le_of_ble_eq_true rfl) (by decide) wp_ap_tongue_d87 ?_
    refine wt_aload_n hE wp_ap_tongue_d90 rfl ?_
    refine wt_iconst hE (0 : Int32) wp_ap_tongue_d91 wt_ci_0 ?_
    refine wt_puti hE wt_lf_ap_101 (hD 0 (Nat.le_of_ble_eq_true rfl)) wt_L0 rfl (fun q hq => by cases hq; rfl) wp_ap_tongue_d92 ?_
    refine wt_aload_n hE wp_ap_tongue_d95 rfl ?_
    refine wt_getr hE (r := 20) wt_lf_ap_29 (hD 0 (Nat.le_of_ble_eq_true rfl)) wt_L0 rfl wp_ap_tongue_d96 ?_
    refine wt_geti hE wt_lf_ap_148 (hD 20 (Nat.le_of_ble_eq_true rfl)) wt_L20 rfl wp_ap_tongue_d99 ?_
    cases h
    exact wt_iretX hE hR (by decide) wp_ap_tongue_d102
  · have h := wt_ip c5 h
    refine wt_aload_n hE wp_ap_tongue_d45 rfl ?_
    refine wt_getr hE (r := 1) wt_lf_ap_12 (hD 0 (Nat.le_of_ble_eq_true rfl)) wt_L0 rfl wp_ap_tongue_d46 ?_
    refine wt_geti hE wt_lf_ap_123 (hD 1 (Nat.le_of_ble_eq_true rfl)) wt_L1 rfl wp_ap_tongue_d49 ?_
    refine wt_bipush hE (10 : Int32) wp_ap_tongue_d52 wt_cb_10 ?_
    refine wt_isub hE wp_ap_tongue_d54 ?_
    cases h
    exact wt_iretX hE hR (by decide) wp_ap_tongue_d55
noncomputable def wp_ap_tongue_B15 (n : Nat) (x1 : Int32) (σ : wt_St) : Option (Nat × Int32 × wt_St) :=
  wp_ap_tongue_B20 n x1 (1 : Int32) σ
set_option maxRecDepth 100000 in
set_option maxHeartbeats 4000000 in
theorem wp_ap_tongue_B15_ok  {x1 : Int32} {X : wt_X} {n : Nat} {res : Nat × Int32 × wt_St} (hE : wt_Ok X prog_1_method_4_code 2 "WornType" 7 8) (hR : wt_RtX X (some .int) 8 res.1 (some res.2.1) res.2.2) (hD : ∀ i, i < 108 → wt_dom (wt_xw X) i)  {σ : wt_St} (h : wp_ap_tongue_B15 n x1 σ = some res) : wt_V X 0 σ 15 [some (.ref (wt_ad (wt_xw X) 0)), some (.int x1)] [] := by
  unfold wp_ap_tongue_B15 at h
  refine wt_iconst hE (1 : Int32) wp_ap_tongue_d15 wt_ci_1 ?_
  refine wt_goto hE 20 wp_ap_tongue_d16 rfl ?_
  exact wp_ap_tongue_B20_ok hE hR hD h
noncomputable def wp_ap_tongue (n : Nat) (x1 : Int32) (σ : wt_St) : Option (Nat × Int32 × wt_St) :=
  if x1 < 0 then
    wp_ap_tongue_B15 n x1 σ
  else
    if x1 ≤ (wt_gf σ 1 2) then
      wp_ap_tongue_B20 n x1 (0 : Int32) σ
    else
      wp_ap_tongue_B15 n x1 σ
set_option maxRecDepth 100000 in
set_option maxHeartbeats 4000000 in
theorem wp_ap_tongue_ok {l : Launch} (htr : l.stackTraces = false) {w : wt_E} {n : Nat} {x1 : Int32} (hD : ∀ i, i < 108 → wt_dom w i) {σ : wt_St} {q : Nat × Int32 × wt_St} (h : wp_ap_tongue n x1 σ = some q) : wt_CtrX l w wt_y_ap_tongue prog_1_method_4_code 2 (some .int) 7 8 [.ref (wt_ad w 0), .int x1] σ q.1 (some q.2.1) q.2.2 := by
  refine wt_ctrX htr wt_pl_ap_tongue rfl (Nat.le_of_ble_eq_true rfl) [some (.ref (wt_ad w 0)), some (.int x1)] rfl ?_
  intro X hXl hXw hE hR
  subst hXl
  subst hXw
  have hE : wt_Ok X prog_1_method_4_code 2 "WornType" 7 8 := hE
  unfold wp_ap_tongue at h
  refine wt_iload_n hE wp_ap_tongue_d0 rfl ?_
  refine wt_if_lt hE 15 wp_ap_tongue_d1 rfl (fun c1 => ?_) (fun c1 => ?_)
  · have h := wt_ip c1 h
    exact wp_ap_tongue_B15_ok hE hR hD h
  · have h := wt_in c1 h
    refine wt_iload_n hE wp_ap_tongue_d4 rfl ?_
    refine wt_aload_n hE wp_ap_tongue_d5 rfl ?_
    refine wt_getr hE (r := 1) wt_lf_ap_12 (hD 0 (Nat.le_of_ble_eq_true rfl)) wt_L0 rfl wp_ap_tongue_d6 ?_
    refine wt_geti hE wt_lf_ap_105 (hD 1 (Nat.le_of_ble_eq_true rfl)) wt_L1 rfl wp_ap_tongue_d9 ?_
    refine wt_icmp_le hE 19 wp_ap_tongue_d12 rfl (fun c8 => ?_) (fun c8 => ?_)
    · have h := wt_ip c8 h
      refine wt_iconst hE (0 : Int32) wp_ap_tongue_d19 wt_ci_0 ?_
      exact wp_ap_tongue_B20_ok hE hR hD h
    · have h := wt_in c8 h
      exact wp_ap_tongue_B15_ok hE hR hD h
def wb42thm_prog_1_method_24_code_r3 : List (List Nat) := [21, 4, 182, 1, 59, 42, 180, 0, 46, 180, 0, 142, 172] :: []
def wb42thm_prog_1_method_24_code_r2 : List (List Nat) := [167, 0, 4, 3, 184, 0, 112, 42, 180, 0, 46, 180, 0, 142, 16, 10, 161, 0, 5, 2, 172, 42, 180, 0, 46, 27, 28, 29] :: wb42thm_prog_1_method_24_code_r3
def wb42thm_prog_1_method_24_code_r1 : List (List Nat) := [16, 100, 161, 0, 7, 4, 167, 0, 4, 3, 184, 0, 112, 21, 4, 4, 161, 0, 11, 21, 4, 17, 3, 231, 164, 0, 7, 4] :: wb42thm_prog_1_method_24_code_r2
def wb42thm_prog_1_method_24_code_r0 : List (List Nat) := [42, 180, 0, 39, 27, 182, 0, 244, 154, 0, 7, 4, 167, 0, 4, 3, 184, 0, 219, 28, 184, 0, 253, 29, 155, 0, 9, 29] :: wb42thm_prog_1_method_24_code_r1
set_option maxRecDepth 100000 in
theorem wb42thm_prog_1_method_24_code_c0 : wt_cs prog_1_method_24_code 0 wb42thm_prog_1_method_24_code_r0 := wt_cs_of (by decide +kernel)
theorem wb42thm_prog_1_method_24_code_c1 : wt_cs prog_1_method_24_code 28 wb42thm_prog_1_method_24_code_r1 := wt_cs_tl (m := 28) wb42thm_prog_1_method_24_code_c0 rfl rfl
theorem wb42thm_prog_1_method_24_code_c2 : wt_cs prog_1_method_24_code 56 wb42thm_prog_1_method_24_code_r2 := wt_cs_tl (m := 28) wb42thm_prog_1_method_24_code_c1 rfl rfl
theorem wb42thm_prog_1_method_24_code_c3 : wt_cs prog_1_method_24_code 84 wb42thm_prog_1_method_24_code_r3 := wt_cs_tl (m := 28) wb42thm_prog_1_method_24_code_c2 rfl rfl
theorem wp_ap_want_d0 : decode prog_1_method_24_code 0 = .ok (.aload_n 0, 1) := wt_op42 wb42thm_prog_1_method_24_code_c0 0 rfl rfl
theorem wp_ap_want_d1 : decode prog_1_method_24_code 1 = .ok (.getfield 39, 3) := wt_op180 wb42thm_prog_1_method_24_code_c0 1 rfl rfl rfl
theorem wp_ap_want_d4 : decode prog_1_method_24_code 4 = .ok (.iload_n 1, 1) := wt_op27 wb42thm_prog_1_method_24_code_c0 4 rfl rfl
theorem wp_ap_want_d5 : decode prog_1_method_24_code 5 = .ok (.invokevirtual 244, 3) := wt_op182 wb42thm_prog_1_method_24_code_c0 5 rfl rfl rfl
theorem wp_ap_want_d8 : decode prog_1_method_24_code 8 = .ok (.ifCond .ne 7, 3) := wt_op154 wb42thm_prog_1_method_24_code_c0 8 rfl rfl rfl
theorem wp_ap_want_d11 : decode prog_1_method_24_code 11 = .ok (.iconst 1, 1) := wt_op4 wb42thm_prog_1_method_24_code_c0 11 rfl rfl
theorem wp_ap_want_d12 : decode prog_1_method_24_code 12 = .ok (.goto 4, 3) := wt_op167 wb42thm_prog_1_method_24_code_c0 12 rfl rfl rfl
theorem wp_ap_want_d15 : decode prog_1_method_24_code 15 = .ok (.iconst 0, 1) := wt_op3 wb42thm_prog_1_method_24_code_c0 15 rfl rfl
theorem wp_ap_want_d16 : decode prog_1_method_24_code 16 = .ok (.invokestatic 219, 3) := wt_op184 wb42thm_prog_1_method_24_code_c0 16 rfl rfl rfl
theorem wp_ap_want_d19 : decode prog_1_method_24_code 19 = .ok (.iload_n 2, 1) := wt_op28 wb42thm_prog_1_method_24_code_c0 19 rfl rfl
theorem wp_ap_want_d20 : decode prog_1_method_24_code 20 = .ok (.invokestatic 253, 3) := wt_op184 wb42thm_prog_1_method_24_code_c0 20 rfl rfl rfl
theorem wp_ap_want_d23 : decode prog_1_method_24_code 23 = .ok (.iload_n 3, 1) := wt_op29 wb42thm_prog_1_method_24_code_c0 23 rfl rfl
theorem wp_ap_want_d24 : decode prog_1_method_24_code 24 = .ok (.ifCond .lt 9, 3) := wt_op155 wb42thm_prog_1_method_24_code_c0 24 rfl rfl rfl
theorem wp_ap_want_d27 : decode prog_1_method_24_code 27 = .ok (.iload_n 3, 1) := wt_op29 wb42thm_prog_1_method_24_code_c0 27 rfl rfl
theorem wp_ap_want_d28 : decode prog_1_method_24_code 28 = .ok (.bipush 100, 2) := wt_op16 wb42thm_prog_1_method_24_code_c1 0 rfl rfl rfl
theorem wp_ap_want_d30 : decode prog_1_method_24_code 30 = .ok (.if_icmp .lt 7, 3) := wt_op161 wb42thm_prog_1_method_24_code_c1 2 rfl rfl rfl
theorem wp_ap_want_d33 : decode prog_1_method_24_code 33 = .ok (.iconst 1, 1) := wt_op4 wb42thm_prog_1_method_24_code_c1 5 rfl rfl
theorem wp_ap_want_d34 : decode prog_1_method_24_code 34 = .ok (.goto 4, 3) := wt_op167 wb42thm_prog_1_method_24_code_c1 6 rfl rfl rfl
theorem wp_ap_want_d37 : decode prog_1_method_24_code 37 = .ok (.iconst 0, 1) := wt_op3 wb42thm_prog_1_method_24_code_c1 9 rfl rfl
theorem wp_ap_want_d38 : decode prog_1_method_24_code 38 = .ok (.invokestatic 112, 3) := wt_op184 wb42thm_prog_1_method_24_code_c1 10 rfl rfl rfl
theorem wp_ap_want_d41 : decode prog_1_method_24_code 41 = .ok (.iload 4, 2) := wt_op21 wb42thm_prog_1_method_24_code_c1 13 rfl rfl
theorem wp_ap_want_d43 : decode prog_1_method_24_code 43 = .ok (.iconst 1, 1) := wt_op4 wb42thm_prog_1_method_24_code_c1 15 rfl rfl
theorem wp_ap_want_d44 : decode prog_1_method_24_code 44 = .ok (.if_icmp .lt 11, 3) := wt_op161 wb42thm_prog_1_method_24_code_c1 16 rfl rfl rfl
theorem wp_ap_want_d47 : decode prog_1_method_24_code 47 = .ok (.iload 4, 2) := wt_op21 wb42thm_prog_1_method_24_code_c1 19 rfl rfl
theorem wp_ap_want_d49 : decode prog_1_method_24_code 49 = .ok (.sipush 999, 3) := wt_op17 wb42thm_prog_1_method_24_code_c1 21 rfl rfl rfl
theorem wp_ap_want_d52 : decode prog_1_method_24_code 52 = .ok (.if_icmp .le 7, 3) := wt_op164 wb42thm_prog_1_method_24_code_c1 24 rfl rfl rfl
theorem wp_ap_want_d55 : decode prog_1_method_24_code 55 = .ok (.iconst 1, 1) := wt_op4 wb42thm_prog_1_method_24_code_c1 27 rfl rfl
theorem wp_ap_want_d56 : decode prog_1_method_24_code 56 = .ok (.goto 4, 3) := wt_op167 wb42thm_prog_1_method_24_code_c2 0 rfl rfl rfl
theorem wp_ap_want_d59 : decode prog_1_method_24_code 59 = .ok (.iconst 0, 1) := wt_op3 wb42thm_prog_1_method_24_code_c2 3 rfl rfl
theorem wp_ap_want_d60 : decode prog_1_method_24_code 60 = .ok (.invokestatic 112, 3) := wt_op184 wb42thm_prog_1_method_24_code_c2 4 rfl rfl rfl
theorem wp_ap_want_d63 : decode prog_1_method_24_code 63 = .ok (.aload_n 0, 1) := wt_op42 wb42thm_prog_1_method_24_code_c2 7 rfl rfl
theorem wp_ap_want_d64 : decode prog_1_method_24_code 64 = .ok (.getfield 46, 3) := wt_op180 wb42thm_prog_1_method_24_code_c2 8 rfl rfl rfl
theorem wp_ap_want_d67 : decode prog_1_method_24_code 67 = .ok (.getfield 142, 3) := wt_op180 wb42thm_prog_1_method_24_code_c2 11 rfl rfl rfl
theorem wp_ap_want_d70 : decode prog_1_method_24_code 70 = .ok (.bipush 10, 2) := wt_op16 wb42thm_prog_1_method_24_code_c2 14 rfl rfl rfl
theorem wp_ap_want_d72 : decode prog_1_method_24_code 72 = .ok (.if_icmp .lt 5, 3) := wt_op161 wb42thm_prog_1_method_24_code_c2 16 rfl rfl rfl
theorem wp_ap_want_d75 : decode prog_1_method_24_code 75 = .ok (.iconst (-1), 1) := wt_op2 wb42thm_prog_1_method_24_code_c2 19 rfl rfl
theorem wp_ap_want_d76 : decode prog_1_method_24_code 76 = .ok (.ireturn, 1) := wt_op172 wb42thm_prog_1_method_24_code_c2 20 rfl rfl
theorem wp_ap_want_d77 : decode prog_1_method_24_code 77 = .ok (.aload_n 0, 1) := wt_op42 wb42thm_prog_1_method_24_code_c2 21 rfl rfl
theorem wp_ap_want_d78 : decode prog_1_method_24_code 78 = .ok (.getfield 46, 3) := wt_op180 wb42thm_prog_1_method_24_code_c2 22 rfl rfl rfl
theorem wp_ap_want_d81 : decode prog_1_method_24_code 81 = .ok (.iload_n 1, 1) := wt_op27 wb42thm_prog_1_method_24_code_c2 25 rfl rfl
theorem wp_ap_want_d82 : decode prog_1_method_24_code 82 = .ok (.iload_n 2, 1) := wt_op28 wb42thm_prog_1_method_24_code_c2 26 rfl rfl
theorem wp_ap_want_d83 : decode prog_1_method_24_code 83 = .ok (.iload_n 3, 1) := wt_op29 wb42thm_prog_1_method_24_code_c2 27 rfl rfl
theorem wp_ap_want_d84 : decode prog_1_method_24_code 84 = .ok (.iload 4, 2) := wt_op21 wb42thm_prog_1_method_24_code_c3 0 rfl rfl
theorem wp_ap_want_d86 : decode prog_1_method_24_code 86 = .ok (.invokevirtual 315, 3) := wt_op182 wb42thm_prog_1_method_24_code_c3 2 rfl rfl rfl
theorem wp_ap_want_d89 : decode prog_1_method_24_code 89 = .ok (.aload_n 0, 1) := wt_op42 wb42thm_prog_1_method_24_code_c3 5 rfl rfl
theorem wp_ap_want_d90 : decode prog_1_method_24_code 90 = .ok (.getfield 46, 3) := wt_op180 wb42thm_prog_1_method_24_code_c3 6 rfl rfl rfl
theorem wp_ap_want_d93 : decode prog_1_method_24_code 93 = .ok (.getfield 142, 3) := wt_op180 wb42thm_prog_1_method_24_code_c3 9 rfl rfl rfl
theorem wp_ap_want_d96 : decode prog_1_method_24_code 96 = .ok (.ireturn, 1) := wt_op172 wb42thm_prog_1_method_24_code_c3 12 rfl rfl
noncomputable def wp_ap_want_B60 (n : Nat) (x1 : Int32) (x2 : Int32) (x3 : Int32) (x4 : Int32) (y0 : Int32) (σ : wt_St) : Option (Nat × Int32 × wt_St) :=
  (wp_ap_refuse n y0 σ).bind fun q8 =>
  if q8.1 = 0 then
  if (wt_gf q8.2.2 39 8) < (10 : Int32) then
    (wp_st_addWanted n 39 x1 x2 x3 x4 q8.2.2).bind fun q10 =>
    some (0, (wt_gf q10 39 8), q10)
  else
    some (0, (-1 : Int32), q8.2.2)
  else some (q8.1, 0, q8.2.2)
set_option maxRecDepth 100000 in
set_option maxHeartbeats 4000000 in
theorem wp_ap_want_B60_ok  {x1 : Int32} {x2 : Int32} {x3 : Int32} {x4 : Int32} {X : wt_X} {n : Nat} {res : Nat × Int32 × wt_St} (hE : wt_Ok X prog_1_method_24_code 5 "WornType" 8 8) (hR : wt_RtX X (some .int) 8 res.1 (some res.2.1) res.2.2) (hD : ∀ i, i < 108 → wt_dom (wt_xw X) i)  {σ : wt_St} {y0 : Int32} (h : wp_ap_want_B60 n x1 x2 x3 x4 y0 σ = some res) : wt_V X 3 σ 60 [some (.ref (wt_ad (wt_xw X) 0)), some (.int x1), some (.int x2), some (.int x3), some (.int x4)] [.int y0] := by
  unfold wp_ap_want_B60 at h
  obtain ⟨q8, hq8, h⟩ := wt_bi h
  refine wt_callSXv (mc := 8) (rt0 := (some .int)) hE [.int y0] wt_ld_ap_112 wt_ya_ap_refuse (wp_ap_refuse_ok hR.2.2.2 hq8) (by omega) rfl rfl (Nat.le_of_ble_eq_true rfl) (by decide) (by decide) wp_ap_want_d60 (fun he => ?_) (fun he => ?_)
  · have h := wt_in he h
    cases h
    exact ⟨_, hR⟩
  have h := wt_ip he h
  refine wt_aload_n hE wp_ap_want_d63 rfl ?_
  refine wt_getr hE (r := 39) wt_lf_ap_46 (hD 0 (Nat.le_of_ble_eq_true rfl)) wt_L0 rfl wp_ap_want_d64 ?_
  refine wt_geti hE wt_lf_ap_142 (hD 39 (Nat.le_of_ble_eq_true rfl)) wt_L39 rfl wp_ap_want_d67 ?_
  refine wt_bipush hE (10 : Int32) wp_ap_want_d70 wt_cb_10 ?_
  refine wt_icmp_lt hE 77 wp_ap_want_d72 rfl (fun c9 => ?_) (fun c9 => ?_)
  · have h := wt_ip c9 h
    refine wt_aload_n hE wp_ap_want_d77 rfl ?_
    refine wt_getr hE (r := 39) wt_lf_ap_46 (hD 0 (Nat.le_of_ble_eq_true rfl)) wt_L0 rfl wp_ap_want_d78 ?_
    refine wt_iload_n hE wp_ap_want_d81 rfl ?_
    refine wt_iload_n hE wp_ap_want_d82 rfl ?_
    refine wt_iload_n hE wp_ap_want_d83 rfl ?_
    refine wt_iload hE wp_ap_want_d84 rfl ?_
    obtain ⟨q10, hq10, h⟩ := wt_bi h
    refine wt_callVv hE [.int x1, .int x2, .int x3, .int x4] wt_lm_ap_315 wt_ya_st_addWanted (wp_st_addWanted_ok wt_isState_39 (fun j hj => hD (39 + j) (by omega)) hq10) (by omega) (hD 39 (Nat.le_of_ble_eq_true rfl)) wt_L39 rfl rfl rfl (Nat.le_of_ble_eq_true rfl) (by decide) wp_ap_want_d86 ?_
    refine wt_aload_n hE wp_ap_want_d89 rfl ?_
    refine wt_getr hE (r := 39) wt_lf_ap_46 (hD 0 (Nat.le_of_ble_eq_true rfl)) wt_L0 rfl wp_ap_want_d90 ?_
    refine wt_geti hE wt_lf_ap_142 (hD 39 (Nat.le_of_ble_eq_true rfl)) wt_L39 rfl wp_ap_want_d93 ?_
    cases h
    exact wt_iretX hE hR (by decide) wp_ap_want_d96
  · have h := wt_in c9 h
    refine wt_iconst hE (-1 : Int32) wp_ap_want_d75 wt_ci_m1 ?_
    cases h
    exact wt_iretX hE hR (by decide) wp_ap_want_d76
noncomputable def wp_ap_want_B55 (n : Nat) (x1 : Int32) (x2 : Int32) (x3 : Int32) (x4 : Int32) (σ : wt_St) : Option (Nat × Int32 × wt_St) :=
  wp_ap_want_B60 n x1 x2 x3 x4 (1 : Int32) σ
set_option maxRecDepth 100000 in
set_option maxHeartbeats 4000000 in
theorem wp_ap_want_B55_ok  {x1 : Int32} {x2 : Int32} {x3 : Int32} {x4 : Int32} {X : wt_X} {n : Nat} {res : Nat × Int32 × wt_St} (hE : wt_Ok X prog_1_method_24_code 5 "WornType" 8 8) (hR : wt_RtX X (some .int) 8 res.1 (some res.2.1) res.2.2) (hD : ∀ i, i < 108 → wt_dom (wt_xw X) i)  {σ : wt_St} (h : wp_ap_want_B55 n x1 x2 x3 x4 σ = some res) : wt_V X 3 σ 55 [some (.ref (wt_ad (wt_xw X) 0)), some (.int x1), some (.int x2), some (.int x3), some (.int x4)] [] := by
  unfold wp_ap_want_B55 at h
  refine wt_iconst hE (1 : Int32) wp_ap_want_d55 wt_ci_1 ?_
  refine wt_goto hE 60 wp_ap_want_d56 rfl ?_
  exact wp_ap_want_B60_ok hE hR hD h
noncomputable def wp_ap_want_B38 (n : Nat) (x1 : Int32) (x2 : Int32) (x3 : Int32) (x4 : Int32) (y0 : Int32) (σ : wt_St) : Option (Nat × Int32 × wt_St) :=
  (wp_ap_refuse n y0 σ).bind fun q6 =>
  if q6.1 = 0 then
  if x4 < (1 : Int32) then
    wp_ap_want_B55 n x1 x2 x3 x4 q6.2.2
  else
    if x4 ≤ (999 : Int32) then
      wp_ap_want_B60 n x1 x2 x3 x4 (0 : Int32) q6.2.2
    else
      wp_ap_want_B55 n x1 x2 x3 x4 q6.2.2
  else some (q6.1, 0, q6.2.2)
set_option maxRecDepth 100000 in
set_option maxHeartbeats 4000000 in
theorem wp_ap_want_B38_ok  {x1 : Int32} {x2 : Int32} {x3 : Int32} {x4 : Int32} {X : wt_X} {n : Nat} {res : Nat × Int32 × wt_St} (hE : wt_Ok X prog_1_method_24_code 5 "WornType" 8 8) (hR : wt_RtX X (some .int) 8 res.1 (some res.2.1) res.2.2) (hD : ∀ i, i < 108 → wt_dom (wt_xw X) i)  {σ : wt_St} {y0 : Int32} (h : wp_ap_want_B38 n x1 x2 x3 x4 y0 σ = some res) : wt_V X 2 σ 38 [some (.ref (wt_ad (wt_xw X) 0)), some (.int x1), some (.int x2), some (.int x3), some (.int x4)] [.int y0] := by
  unfold wp_ap_want_B38 at h
  obtain ⟨q6, hq6, h⟩ := wt_bi h
  refine wt_callSXv (mc := 8) (rt0 := (some .int)) hE [.int y0] wt_ld_ap_112 wt_ya_ap_refuse (wp_ap_refuse_ok hR.2.2.2 hq6) (by omega) rfl rfl (Nat.le_of_ble_eq_true rfl) (by decide) (by decide) wp_ap_want_d38 (fun he => ?_) (fun he => ?_)
  · have h := wt_in he h
    cases h
    exact ⟨_, hR⟩
  have h := wt_ip he h
  refine wt_iload hE wp_ap_want_d41 rfl ?_
  refine wt_iconst hE (1 : Int32) wp_ap_want_d43 wt_ci_1 ?_
  refine wt_icmp_lt hE 55 wp_ap_want_d44 rfl (fun c7 => ?_) (fun c7 => ?_)
  · have h := wt_ip c7 h
    exact wp_ap_want_B55_ok hE hR hD h
  · have h := wt_in c7 h
    refine wt_iload hE wp_ap_want_d47 rfl ?_
    refine wt_sipush hE (999 : Int32) wp_ap_want_d49 wt_cs_999 ?_
    refine wt_icmp_le hE 59 wp_ap_want_d52 rfl (fun c11 => ?_) (fun c11 => ?_)
    · have h := wt_ip c11 h
      refine wt_iconst hE (0 : Int32) wp_ap_want_d59 wt_ci_0 ?_
      exact wp_ap_want_B60_ok hE hR hD h
    · have h := wt_in c11 h
      exact wp_ap_want_B55_ok hE hR hD h
noncomputable def wp_ap_want_B33 (n : Nat) (x1 : Int32) (x2 : Int32) (x3 : Int32) (x4 : Int32) (σ : wt_St) : Option (Nat × Int32 × wt_St) :=
  wp_ap_want_B38 n x1 x2 x3 x4 (1 : Int32) σ
set_option maxRecDepth 100000 in
set_option maxHeartbeats 4000000 in
theorem wp_ap_want_B33_ok  {x1 : Int32} {x2 : Int32} {x3 : Int32} {x4 : Int32} {X : wt_X} {n : Nat} {res : Nat × Int32 × wt_St} (hE : wt_Ok X prog_1_method_24_code 5 "WornType" 8 8) (hR : wt_RtX X (some .int) 8 res.1 (some res.2.1) res.2.2) (hD : ∀ i, i < 108 → wt_dom (wt_xw X) i)  {σ : wt_St} (h : wp_ap_want_B33 n x1 x2 x3 x4 σ = some res) : wt_V X 2 σ 33 [some (.ref (wt_ad (wt_xw X) 0)), some (.int x1), some (.int x2), some (.int x3), some (.int x4)] [] := by
  unfold wp_ap_want_B33 at h
  refine wt_iconst hE (1 : Int32) wp_ap_want_d33 wt_ci_1 ?_
  refine wt_goto hE 38 wp_ap_want_d34 rfl ?_
  exact wp_ap_want_B38_ok hE hR hD h
noncomputable def wp_ap_want_B16 (n : Nat) (x1 : Int32) (x2 : Int32) (x3 : Int32) (x4 : Int32) (y0 : Int32) (σ : wt_St) : Option (Nat × Int32 × wt_St) :=
  (wp_ap_miss n y0 σ).bind fun q3 =>
  if q3.1 = 0 then
  (wp_ap_refuseCopies n x2 q3.2.2).bind fun q4 =>
  if q4.1 = 0 then
  if x3 < 0 then
    wp_ap_want_B33 n x1 x2 x3 x4 q4.2.2
  else
    if x3 < (100 : Int32) then
      wp_ap_want_B38 n x1 x2 x3 x4 (0 : Int32) q4.2.2
    else
      wp_ap_want_B33 n x1 x2 x3 x4 q4.2.2
  else some (q4.1, 0, q4.2.2)
  else some (q3.1, 0, q3.2.2)
set_option maxRecDepth 100000 in
set_option maxHeartbeats 4000000 in
theorem wp_ap_want_B16_ok  {x1 : Int32} {x2 : Int32} {x3 : Int32} {x4 : Int32} {X : wt_X} {n : Nat} {res : Nat × Int32 × wt_St} (hE : wt_Ok X prog_1_method_24_code 5 "WornType" 8 8) (hR : wt_RtX X (some .int) 8 res.1 (some res.2.1) res.2.2) (hD : ∀ i, i < 108 → wt_dom (wt_xw X) i)  {σ : wt_St} {y0 : Int32} (h : wp_ap_want_B16 n x1 x2 x3 x4 y0 σ = some res) : wt_V X 0 σ 16 [some (.ref (wt_ad (wt_xw X) 0)), some (.int x1), some (.int x2), some (.int x3), some (.int x4)] [.int y0] := by
  unfold wp_ap_want_B16 at h
  obtain ⟨q3, hq3, h⟩ := wt_bi h
  refine wt_callSXv (mc := 8) (rt0 := (some .int)) hE [.int y0] wt_ld_ap_219 wt_ya_ap_miss (wp_ap_miss_ok hR.2.2.2 hq3) (by omega) rfl rfl (Nat.le_of_ble_eq_true rfl) (by decide) (by decide) wp_ap_want_d16 (fun he => ?_) (fun he => ?_)
  · have h := wt_in he h
    cases h
    exact ⟨_, hR⟩
  have h := wt_ip he h
  refine wt_iload_n hE wp_ap_want_d19 rfl ?_
  obtain ⟨q4, hq4, h⟩ := wt_bi h
  refine wt_callSXv (mc := 8) (rt0 := (some .int)) hE [.int x2] wt_ld_ap_253 wt_ya_ap_refuseCopies (wp_ap_refuseCopies_ok hR.2.2.2 hq4) (by omega) rfl rfl (Nat.le_of_ble_eq_true rfl) (by decide) (by decide) wp_ap_want_d20 (fun he => ?_) (fun he => ?_)
  · have h := wt_in he h
    cases h
    exact ⟨_, hR⟩
  have h := wt_ip he h
  refine wt_iload_n hE wp_ap_want_d23 rfl ?_
  refine wt_if_lt hE 33 wp_ap_want_d24 rfl (fun c5 => ?_) (fun c5 => ?_)
  · have h := wt_ip c5 h
    exact wp_ap_want_B33_ok hE hR hD h
  · have h := wt_in c5 h
    refine wt_iload_n hE wp_ap_want_d27 rfl ?_
    refine wt_bipush hE (100 : Int32) wp_ap_want_d28 wt_cb_100 ?_
    refine wt_icmp_lt hE 37 wp_ap_want_d30 rfl (fun c12 => ?_) (fun c12 => ?_)
    · have h := wt_ip c12 h
      refine wt_iconst hE (0 : Int32) wp_ap_want_d37 wt_ci_0 ?_
      exact wp_ap_want_B38_ok hE hR hD h
    · have h := wt_in c12 h
      exact wp_ap_want_B33_ok hE hR hD h
noncomputable def wp_ap_want (n : Nat) (x1 : Int32) (x2 : Int32) (x3 : Int32) (x4 : Int32) (σ : wt_St) : Option (Nat × Int32 × wt_St) :=
  (wp_tx_has n x1 σ).bind fun q1 =>
  if q1.1 = 0 then
    wp_ap_want_B16 n x1 x2 x3 x4 (1 : Int32) q1.2
  else
    wp_ap_want_B16 n x1 x2 x3 x4 (0 : Int32) q1.2
set_option maxRecDepth 100000 in
set_option maxHeartbeats 4000000 in
theorem wp_ap_want_ok {l : Launch} (htr : l.stackTraces = false) {w : wt_E} {n : Nat} {x1 : Int32} {x2 : Int32} {x3 : Int32} {x4 : Int32} (hD : ∀ i, i < 108 → wt_dom w i) {σ : wt_St} {q : Nat × Int32 × wt_St} (h : wp_ap_want n x1 x2 x3 x4 σ = some q) : wt_CtrX l w wt_y_ap_want prog_1_method_24_code 5 (some .int) 8 8 [.ref (wt_ad w 0), .int x1, .int x2, .int x3, .int x4] σ q.1 (some q.2.1) q.2.2 := by
  refine wt_ctrX htr wt_pl_ap_want rfl (Nat.le_of_ble_eq_true rfl) [some (.ref (wt_ad w 0)), some (.int x1), some (.int x2), some (.int x3), some (.int x4)] rfl ?_
  intro X hXl hXw hE hR
  subst hXl
  subst hXw
  have hE : wt_Ok X prog_1_method_24_code 5 "WornType" 8 8 := hE
  unfold wp_ap_want at h
  refine wt_aload_n hE wp_ap_want_d0 rfl ?_
  refine wt_getr hE (r := 34) wt_lf_ap_39 (hD 0 (Nat.le_of_ble_eq_true rfl)) wt_L0 rfl wp_ap_want_d1 ?_
  refine wt_iload_n hE wp_ap_want_d4 rfl ?_
  obtain ⟨q1, hq1, h⟩ := wt_bi h
  refine wt_callVi hE [.int x1] wt_lm_ap_244 wt_ya_tx_has (wp_tx_has_ok hD hq1) (by omega) (hD 34 (Nat.le_of_ble_eq_true rfl)) wt_L34 rfl rfl rfl (Nat.le_of_ble_eq_true rfl) (by decide) wp_ap_want_d5 (fun hbq1 => ?_)
  refine wt_if_ne hE 15 wp_ap_want_d8 rfl (fun c2 => ?_) (fun c2 => ?_)
  · have h := wt_in c2 h
    refine wt_iconst hE (0 : Int32) wp_ap_want_d15 wt_ci_0 ?_
    exact wp_ap_want_B16_ok hE hR hD h
  · have h := wt_ip c2 h
    refine wt_iconst hE (1 : Int32) wp_ap_want_d11 wt_ci_1 ?_
    refine wt_goto hE 16 wp_ap_want_d12 rfl ?_
    exact wp_ap_want_B16_ok hE hR hD h
def wb42thm_prog_1_method_10_code_r4 : List (List Nat) := [191] :: []
def wb42thm_prog_1_method_10_code_r3 : List (List Nat) := [42, 180, 0, 59, 42, 180, 0, 97, 42, 180, 0, 46, 180, 0, 210, 182, 0, 238, 172, 187, 0, 167, 89, 18, 242, 183, 0, 171] :: wb42thm_prog_1_method_10_code_r4
def wb42thm_prog_1_method_10_code_r2 : List (List Nat) := [180, 0, 228, 27, 184, 0, 193, 172, 42, 180, 0, 75, 27, 182, 0, 231, 172, 42, 180, 0, 29, 27, 42, 180, 0, 97, 182, 0, 234] :: wb42thm_prog_1_method_10_code_r3
def wb42thm_prog_1_method_10_code_r1 : List (List Nat) := [42, 180, 0, 29, 180, 0, 222, 27, 184, 0, 193, 172, 42, 180, 0, 29, 180, 0, 225, 27, 184, 0, 193, 172, 42, 180, 0, 29] :: wb42thm_prog_1_method_10_code_r2
def wb42thm_prog_1_method_10_code_r0 : List (List Nat) := [42, 180, 0, 29, 27, 182, 0, 215, 154, 0, 7, 4, 167, 0, 4, 3, 184, 0, 219, 28, 170, 0, 0, 0, 0, 0, 0, 112, 0, 0, 0, 0, 0, 0, 0, 4, 0, 0, 0, 36, 0, 0, 0, 48, 0, 0, 0, 60, 0, 0, 0, 72, 0, 0, 0, 81] :: wb42thm_prog_1_method_10_code_r1
set_option maxRecDepth 100000 in
theorem wb42thm_prog_1_method_10_code_c0 : wt_cs prog_1_method_10_code 0 wb42thm_prog_1_method_10_code_r0 := wt_cs_of (by decide +kernel)
theorem wb42thm_prog_1_method_10_code_c1 : wt_cs prog_1_method_10_code 56 wb42thm_prog_1_method_10_code_r1 := wt_cs_tl (m := 56) wb42thm_prog_1_method_10_code_c0 rfl rfl
theorem wb42thm_prog_1_method_10_code_c2 : wt_cs prog_1_method_10_code 84 wb42thm_prog_1_method_10_code_r2 := wt_cs_tl (m := 28) wb42thm_prog_1_method_10_code_c1 rfl rfl
theorem wb42thm_prog_1_method_10_code_c3 : wt_cs prog_1_method_10_code 113 wb42thm_prog_1_method_10_code_r3 := wt_cs_tl (m := 29) wb42thm_prog_1_method_10_code_c2 rfl rfl
theorem wb42thm_prog_1_method_10_code_c4 : wt_cs prog_1_method_10_code 141 wb42thm_prog_1_method_10_code_r4 := wt_cs_tl (m := 28) wb42thm_prog_1_method_10_code_c3 rfl rfl
theorem wp_ap_word_d0 : decode prog_1_method_10_code 0 = .ok (.aload_n 0, 1) := wt_op42 wb42thm_prog_1_method_10_code_c0 0 rfl rfl
theorem wp_ap_word_d1 : decode prog_1_method_10_code 1 = .ok (.getfield 29, 3) := wt_op180 wb42thm_prog_1_method_10_code_c0 1 rfl rfl rfl
theorem wp_ap_word_d4 : decode prog_1_method_10_code 4 = .ok (.iload_n 1, 1) := wt_op27 wb42thm_prog_1_method_10_code_c0 4 rfl rfl
theorem wp_ap_word_d5 : decode prog_1_method_10_code 5 = .ok (.invokevirtual 215, 3) := wt_op182 wb42thm_prog_1_method_10_code_c0 5 rfl rfl rfl
theorem wp_ap_word_d8 : decode prog_1_method_10_code 8 = .ok (.ifCond .ne 7, 3) := wt_op154 wb42thm_prog_1_method_10_code_c0 8 rfl rfl rfl
theorem wp_ap_word_d11 : decode prog_1_method_10_code 11 = .ok (.iconst 1, 1) := wt_op4 wb42thm_prog_1_method_10_code_c0 11 rfl rfl
theorem wp_ap_word_d12 : decode prog_1_method_10_code 12 = .ok (.goto 4, 3) := wt_op167 wb42thm_prog_1_method_10_code_c0 12 rfl rfl rfl
theorem wp_ap_word_d15 : decode prog_1_method_10_code 15 = .ok (.iconst 0, 1) := wt_op3 wb42thm_prog_1_method_10_code_c0 15 rfl rfl
theorem wp_ap_word_d16 : decode prog_1_method_10_code 16 = .ok (.invokestatic 219, 3) := wt_op184 wb42thm_prog_1_method_10_code_c0 16 rfl rfl rfl
theorem wp_ap_word_d19 : decode prog_1_method_10_code 19 = .ok (.iload_n 2, 1) := wt_op28 wb42thm_prog_1_method_10_code_c0 19 rfl rfl
theorem wp_ap_word_d20 : decode prog_1_method_10_code 20 = .ok (.tableswitch 112 0 4 #[36, 48, 60, 72, 81], 36) := by decide +kernel
theorem wp_ap_word_d56 : decode prog_1_method_10_code 56 = .ok (.aload_n 0, 1) := wt_op42 wb42thm_prog_1_method_10_code_c1 0 rfl rfl
theorem wp_ap_word_d57 : decode prog_1_method_10_code 57 = .ok (.getfield 29, 3) := wt_op180 wb42thm_prog_1_method_10_code_c1 1 rfl rfl rfl
theorem wp_ap_word_d60 : decode prog_1_method_10_code 60 = .ok (.getfield 222, 3) := wt_op180 wb42thm_prog_1_method_10_code_c1 4 rfl rfl rfl
theorem wp_ap_word_d63 : decode prog_1_method_10_code 63 = .ok (.iload_n 1, 1) := wt_op27 wb42thm_prog_1_method_10_code_c1 7 rfl rfl
theorem wp_ap_word_d64 : decode prog_1_method_10_code 64 = .ok (.invokestatic 193, 3) := wt_op184 wb42thm_prog_1_method_10_code_c1 8 rfl rfl rfl
theorem wp_ap_word_d67 : decode prog_1_method_10_code 67 = .ok (.ireturn, 1) := wt_op172 wb42thm_prog_1_method_10_code_c1 11 rfl rfl
theorem wp_ap_word_d68 : decode prog_1_method_10_code 68 = .ok (.aload_n 0, 1) := wt_op42 wb42thm_prog_1_method_10_code_c1 12 rfl rfl
theorem wp_ap_word_d69 : decode prog_1_method_10_code 69 = .ok (.getfield 29, 3) := wt_op180 wb42thm_prog_1_method_10_code_c1 13 rfl rfl rfl
theorem wp_ap_word_d72 : decode prog_1_method_10_code 72 = .ok (.getfield 225, 3) := wt_op180 wb42thm_prog_1_method_10_code_c1 16 rfl rfl rfl
theorem wp_ap_word_d75 : decode prog_1_method_10_code 75 = .ok (.iload_n 1, 1) := wt_op27 wb42thm_prog_1_method_10_code_c1 19 rfl rfl
theorem wp_ap_word_d76 : decode prog_1_method_10_code 76 = .ok (.invokestatic 193, 3) := wt_op184 wb42thm_prog_1_method_10_code_c1 20 rfl rfl rfl
theorem wp_ap_word_d79 : decode prog_1_method_10_code 79 = .ok (.ireturn, 1) := wt_op172 wb42thm_prog_1_method_10_code_c1 23 rfl rfl
theorem wp_ap_word_d80 : decode prog_1_method_10_code 80 = .ok (.aload_n 0, 1) := wt_op42 wb42thm_prog_1_method_10_code_c1 24 rfl rfl
theorem wp_ap_word_d81 : decode prog_1_method_10_code 81 = .ok (.getfield 29, 3) := wt_op180 wb42thm_prog_1_method_10_code_c1 25 rfl rfl rfl
theorem wp_ap_word_d84 : decode prog_1_method_10_code 84 = .ok (.getfield 228, 3) := wt_op180 wb42thm_prog_1_method_10_code_c2 0 rfl rfl rfl
theorem wp_ap_word_d87 : decode prog_1_method_10_code 87 = .ok (.iload_n 1, 1) := wt_op27 wb42thm_prog_1_method_10_code_c2 3 rfl rfl
theorem wp_ap_word_d88 : decode prog_1_method_10_code 88 = .ok (.invokestatic 193, 3) := wt_op184 wb42thm_prog_1_method_10_code_c2 4 rfl rfl rfl
theorem wp_ap_word_d91 : decode prog_1_method_10_code 91 = .ok (.ireturn, 1) := wt_op172 wb42thm_prog_1_method_10_code_c2 7 rfl rfl
theorem wp_ap_word_d92 : decode prog_1_method_10_code 92 = .ok (.aload_n 0, 1) := wt_op42 wb42thm_prog_1_method_10_code_c2 8 rfl rfl
theorem wp_ap_word_d93 : decode prog_1_method_10_code 93 = .ok (.getfield 75, 3) := wt_op180 wb42thm_prog_1_method_10_code_c2 9 rfl rfl rfl
theorem wp_ap_word_d96 : decode prog_1_method_10_code 96 = .ok (.iload_n 1, 1) := wt_op27 wb42thm_prog_1_method_10_code_c2 12 rfl rfl
theorem wp_ap_word_d97 : decode prog_1_method_10_code 97 = .ok (.invokevirtual 231, 3) := wt_op182 wb42thm_prog_1_method_10_code_c2 13 rfl rfl rfl
theorem wp_ap_word_d100 : decode prog_1_method_10_code 100 = .ok (.ireturn, 1) := wt_op172 wb42thm_prog_1_method_10_code_c2 16 rfl rfl
theorem wp_ap_word_d101 : decode prog_1_method_10_code 101 = .ok (.aload_n 0, 1) := wt_op42 wb42thm_prog_1_method_10_code_c2 17 rfl rfl
theorem wp_ap_word_d102 : decode prog_1_method_10_code 102 = .ok (.getfield 29, 3) := wt_op180 wb42thm_prog_1_method_10_code_c2 18 rfl rfl rfl
theorem wp_ap_word_d105 : decode prog_1_method_10_code 105 = .ok (.iload_n 1, 1) := wt_op27 wb42thm_prog_1_method_10_code_c2 21 rfl rfl
theorem wp_ap_word_d106 : decode prog_1_method_10_code 106 = .ok (.aload_n 0, 1) := wt_op42 wb42thm_prog_1_method_10_code_c2 22 rfl rfl
theorem wp_ap_word_d107 : decode prog_1_method_10_code 107 = .ok (.getfield 97, 3) := wt_op180 wb42thm_prog_1_method_10_code_c2 23 rfl rfl rfl
theorem wp_ap_word_d110 : decode prog_1_method_10_code 110 = .ok (.invokevirtual 234, 3) := wt_op182 wb42thm_prog_1_method_10_code_c2 26 rfl rfl rfl
theorem wp_ap_word_d113 : decode prog_1_method_10_code 113 = .ok (.aload_n 0, 1) := wt_op42 wb42thm_prog_1_method_10_code_c3 0 rfl rfl
theorem wp_ap_word_d114 : decode prog_1_method_10_code 114 = .ok (.getfield 59, 3) := wt_op180 wb42thm_prog_1_method_10_code_c3 1 rfl rfl rfl
theorem wp_ap_word_d117 : decode prog_1_method_10_code 117 = .ok (.aload_n 0, 1) := wt_op42 wb42thm_prog_1_method_10_code_c3 4 rfl rfl
theorem wp_ap_word_d118 : decode prog_1_method_10_code 118 = .ok (.getfield 97, 3) := wt_op180 wb42thm_prog_1_method_10_code_c3 5 rfl rfl rfl
theorem wp_ap_word_d121 : decode prog_1_method_10_code 121 = .ok (.aload_n 0, 1) := wt_op42 wb42thm_prog_1_method_10_code_c3 8 rfl rfl
theorem wp_ap_word_d122 : decode prog_1_method_10_code 122 = .ok (.getfield 46, 3) := wt_op180 wb42thm_prog_1_method_10_code_c3 9 rfl rfl rfl
theorem wp_ap_word_d125 : decode prog_1_method_10_code 125 = .ok (.getfield 210, 3) := wt_op180 wb42thm_prog_1_method_10_code_c3 12 rfl rfl rfl
theorem wp_ap_word_d128 : decode prog_1_method_10_code 128 = .ok (.invokevirtual 238, 3) := wt_op182 wb42thm_prog_1_method_10_code_c3 15 rfl rfl rfl
theorem wp_ap_word_d131 : decode prog_1_method_10_code 131 = .ok (.ireturn, 1) := wt_op172 wb42thm_prog_1_method_10_code_c3 18 rfl rfl
theorem wp_ap_word_d132 : decode prog_1_method_10_code 132 = .ok (.new 167, 3) := wt_op187 wb42thm_prog_1_method_10_code_c3 19 rfl rfl rfl
theorem wp_ap_word_d135 : decode prog_1_method_10_code 135 = .ok (.dup, 1) := wt_op89 wb42thm_prog_1_method_10_code_c3 22 rfl rfl
theorem wp_ap_word_d136 : decode prog_1_method_10_code 136 = .ok (.ldc 242, 2) := wt_op18 wb42thm_prog_1_method_10_code_c3 23 rfl rfl
theorem wp_ap_word_d138 : decode prog_1_method_10_code 138 = .ok (.invokespecial 171, 3) := wt_op183 wb42thm_prog_1_method_10_code_c3 25 rfl rfl rfl
theorem wp_ap_word_d141 : decode prog_1_method_10_code 141 = .ok (.athrow, 1) := wt_op191 wb42thm_prog_1_method_10_code_c4 0 rfl rfl
noncomputable def wp_ap_word_B16 (n : Nat) (x1 : Int32) (x2 : Int32) (y0 : Int32) (σ : wt_St) : Option (Nat × Int32 × wt_St) :=
  (wp_ap_miss n y0 σ).bind fun q3 =>
  if q3.1 = 0 then
  if x2 = (0 : Int32) then
    (wp_ap_look n 22 x1 q3.2.2).bind fun q5 =>
    some (0, q5.1, q5.2)
  else if x2 = (1 : Int32) then
    (wp_ap_look n 23 x1 q3.2.2).bind fun q7 =>
    some (0, q7.1, q7.2)
  else if x2 = (2 : Int32) then
    (wp_ap_look n 24 x1 q3.2.2).bind fun q9 =>
    some (0, q9.1, q9.2)
  else if x2 = (3 : Int32) then
    (wp_rw_priceOf n x1 q3.2.2).bind fun q11 =>
    some (0, q11.1, q11.2)
  else if x2 = (4 : Int32) then
    (wp_tg_spell n 20 107 x1 q3.2.2).bind fun q13 =>
    (wp_sk_often n 107 40 q13).bind fun q14 =>
    some (0, q14.1, q14.2)
  else some (1, 0, q3.2.2)
  else some (q3.1, 0, q3.2.2)
set_option maxRecDepth 100000 in
set_option maxHeartbeats 4000000 in
theorem wp_ap_word_B16_ok  {x1 : Int32} {x2 : Int32} {X : wt_X} {n : Nat} {res : Nat × Int32 × wt_St} (hE : wt_Ok X prog_1_method_10_code 3 "WornType" 7 8) (hR : wt_RtX X (some .int) 8 res.1 (some res.2.1) res.2.2) (hD : ∀ i, i < 108 → wt_dom (wt_xw X) i)  {σ : wt_St} {y0 : Int32} (h : wp_ap_word_B16 n x1 x2 y0 σ = some res) : wt_V X 0 σ 16 [some (.ref (wt_ad (wt_xw X) 0)), some (.int x1), some (.int x2)] [.int y0] := by
  unfold wp_ap_word_B16 at h
  obtain ⟨q3, hq3, h⟩ := wt_bi h
  refine wt_callSXv (mc := 8) (rt0 := (some .int)) hE [.int y0] wt_ld_ap_219 wt_ya_ap_miss (wp_ap_miss_ok hR.2.2.2 hq3) (by omega) rfl rfl (Nat.le_of_ble_eq_true rfl) (by decide) (by decide) wp_ap_word_d16 (fun he => ?_) (fun he => ?_)
  · have h := wt_in he h
    cases h
    exact ⟨_, hR⟩
  have h := wt_ip he h
  refine wt_iload_n hE wp_ap_word_d19 rfl ?_
  by_cases c4 : x2 = (0 : Int32)
  · have h := wt_ip c4 h
    refine wt_tsIn hE (off := 36) 56 c4 wp_ap_word_d20 (by decide) (by decide) (by decide) rfl ?_
    refine wt_aload_n hE wp_ap_word_d56 rfl ?_
    refine wt_getr hE (r := 20) wt_lf_ap_29 (hD 0 (Nat.le_of_ble_eq_true rfl)) wt_L0 rfl wp_ap_word_d57 ?_
    refine wt_getr hE (r := 22) wt_lf_ap_222 (hD 20 (Nat.le_of_ble_eq_true rfl)) wt_L20 rfl wp_ap_word_d60 ?_
    refine wt_iload_n hE wp_ap_word_d63 rfl ?_
    obtain ⟨q5, hq5, h⟩ := wt_bi h
    refine wt_callSi hE [.ref (wt_ad (wt_xw X) 22), .int x1] wt_lm_ap_193 wt_ya_ap_look (wp_ap_look_ok (wt_lnE wt_L22) (hD 22 (Nat.le_of_ble_eq_true rfl)) hq5) (by omega) rfl rfl (Nat.le_of_ble_eq_true rfl) (by decide) wp_ap_word_d64 (fun hbq5 => ?_)
    cases h
    exact wt_iretX hE hR (by decide) wp_ap_word_d67
  have h := wt_in c4 h
  by_cases c6 : x2 = (1 : Int32)
  · have h := wt_ip c6 h
    refine wt_tsIn hE (off := 48) 68 c6 wp_ap_word_d20 (by decide) (by decide) (by decide) rfl ?_
    refine wt_aload_n hE wp_ap_word_d68 rfl ?_
    refine wt_getr hE (r := 20) wt_lf_ap_29 (hD 0 (Nat.le_of_ble_eq_true rfl)) wt_L0 rfl wp_ap_word_d69 ?_
    refine wt_getr hE (r := 23) wt_lf_ap_225 (hD 20 (Nat.le_of_ble_eq_true rfl)) wt_L20 rfl wp_ap_word_d72 ?_
    refine wt_iload_n hE wp_ap_word_d75 rfl ?_
    obtain ⟨q7, hq7, h⟩ := wt_bi h
    refine wt_callSi hE [.ref (wt_ad (wt_xw X) 23), .int x1] wt_lm_ap_193 wt_ya_ap_look (wp_ap_look_ok (wt_lnE wt_L23) (hD 23 (Nat.le_of_ble_eq_true rfl)) hq7) (by omega) rfl rfl (Nat.le_of_ble_eq_true rfl) (by decide) wp_ap_word_d76 (fun hbq7 => ?_)
    cases h
    exact wt_iretX hE hR (by decide) wp_ap_word_d79
  have h := wt_in c6 h
  by_cases c8 : x2 = (2 : Int32)
  · have h := wt_ip c8 h
    refine wt_tsIn hE (off := 60) 80 c8 wp_ap_word_d20 (by decide) (by decide) (by decide) rfl ?_
    refine wt_aload_n hE wp_ap_word_d80 rfl ?_
    refine wt_getr hE (r := 20) wt_lf_ap_29 (hD 0 (Nat.le_of_ble_eq_true rfl)) wt_L0 rfl wp_ap_word_d81 ?_
    refine wt_getr hE (r := 24) wt_lf_ap_228 (hD 20 (Nat.le_of_ble_eq_true rfl)) wt_L20 rfl wp_ap_word_d84 ?_
    refine wt_iload_n hE wp_ap_word_d87 rfl ?_
    obtain ⟨q9, hq9, h⟩ := wt_bi h
    refine wt_callSi hE [.ref (wt_ad (wt_xw X) 24), .int x1] wt_lm_ap_193 wt_ya_ap_look (wp_ap_look_ok (wt_lnE wt_L24) (hD 24 (Nat.le_of_ble_eq_true rfl)) hq9) (by omega) rfl rfl (Nat.le_of_ble_eq_true rfl) (by decide) wp_ap_word_d88 (fun hbq9 => ?_)
    cases h
    exact wt_iretX hE hR (by decide) wp_ap_word_d91
  have h := wt_in c8 h
  by_cases c10 : x2 = (3 : Int32)
  · have h := wt_ip c10 h
    refine wt_tsIn hE (off := 72) 92 c10 wp_ap_word_d20 (by decide) (by decide) (by decide) rfl ?_
    refine wt_aload_n hE wp_ap_word_d92 rfl ?_
    refine wt_getr hE (r := 81) wt_lf_ap_75 (hD 0 (Nat.le_of_ble_eq_true rfl)) wt_L0 rfl wp_ap_word_d93 ?_
    refine wt_iload_n hE wp_ap_word_d96 rfl ?_
    obtain ⟨q11, hq11, h⟩ := wt_bi h
    refine wt_callVi hE [.int x1] wt_lm_ap_231 wt_ya_rw_priceOf (wp_rw_priceOf_ok hD hq11) (by omega) (hD 81 (Nat.le_of_ble_eq_true rfl)) wt_L81 rfl rfl rfl (Nat.le_of_ble_eq_true rfl) (by decide) wp_ap_word_d97 (fun hbq11 => ?_)
    cases h
    exact wt_iretX hE hR (by decide) wp_ap_word_d100
  have h := wt_in c10 h
  by_cases c12 : x2 = (4 : Int32)
  · have h := wt_ip c12 h
    refine wt_tsIn hE (off := 81) 101 c12 wp_ap_word_d20 (by decide) (by decide) (by decide) rfl ?_
    refine wt_aload_n hE wp_ap_word_d101 rfl ?_
    refine wt_getr hE (r := 20) wt_lf_ap_29 (hD 0 (Nat.le_of_ble_eq_true rfl)) wt_L0 rfl wp_ap_word_d102 ?_
    refine wt_iload_n hE wp_ap_word_d105 rfl ?_
    refine wt_aload_n hE wp_ap_word_d106 rfl ?_
    refine wt_getr hE (r := 107) wt_lf_ap_97 (hD 0 (Nat.le_of_ble_eq_true rfl)) wt_L0 rfl wp_ap_word_d107 ?_
    obtain ⟨q13, hq13, h⟩ := wt_bi h
    refine wt_callVv hE [.int x1, .ref (wt_ad (wt_xw X) 107)] wt_lm_ap_234 wt_ya_tg_spell (wp_tg_spell_ok wt_isTongue_20 (fun j hj => hD (20 + j) (by omega)) (wt_lnE wt_L107) (hD 107 (Nat.le_of_ble_eq_true rfl)) hq13) (by omega) (hD 20 (Nat.le_of_ble_eq_true rfl)) wt_L20 rfl rfl rfl (Nat.le_of_ble_eq_true rfl) (by decide) wp_ap_word_d110 ?_
    refine wt_aload_n hE wp_ap_word_d113 rfl ?_
    refine wt_getr hE (r := 76) wt_lf_ap_59 (hD 0 (Nat.le_of_ble_eq_true rfl)) wt_L0 rfl wp_ap_word_d114 ?_
    refine wt_aload_n hE wp_ap_word_d117 rfl ?_
    refine wt_getr hE (r := 107) wt_lf_ap_97 (hD 0 (Nat.le_of_ble_eq_true rfl)) wt_L0 rfl wp_ap_word_d118 ?_
    refine wt_aload_n hE wp_ap_word_d121 rfl ?_
    refine wt_getr hE (r := 39) wt_lf_ap_46 (hD 0 (Nat.le_of_ble_eq_true rfl)) wt_L0 rfl wp_ap_word_d122 ?_
    refine wt_getr hE (r := 40) wt_lf_ap_210 (hD 39 (Nat.le_of_ble_eq_true rfl)) wt_L39 rfl wp_ap_word_d125 ?_
    obtain ⟨q14, hq14, h⟩ := wt_bi h
    refine wt_callVi hE [.ref (wt_ad (wt_xw X) 107), .ref (wt_ad (wt_xw X) 40)] wt_lm_ap_238 wt_ya_sk_often (wp_sk_often_ok hD (wt_lnE wt_L107) (hD 107 (Nat.le_of_ble_eq_true rfl)) (wt_lnE wt_L40) (hD 40 (Nat.le_of_ble_eq_true rfl)) hq14) (by omega) (hD 76 (Nat.le_of_ble_eq_true rfl)) wt_L76 rfl rfl rfl (Nat.le_of_ble_eq_true rfl) (by decide) wp_ap_word_d128 (fun hbq14 => ?_)
    cases h
    exact wt_iretX hE hR (by decide) wp_ap_word_d131
  have h := wt_in c12 h
  refine wt_tsOut hE 5 132 rfl (by decide) (fun j hj => ?_) wp_ap_word_d20 rfl ?_
  · rcases (show j = 0 ∨ j = 1 ∨ j = 2 ∨ j = 3 ∨ j = 4 by omega) with rfl | rfl | rfl | rfl | rfl
    · exact c4
    · exact c6
    · exact c8
    · exact c10
    · exact c12
  cases h
  exact wt_thrI hE hR 3 rfl (by omega) (by decide) (by decide) (Nat.le_of_ble_eq_true rfl) wp_ap_word_d132 wp_ap_word_d135 wp_ap_word_d136 wp_ap_word_d138 wp_ap_word_d141
noncomputable def wp_ap_word (n : Nat) (x1 : Int32) (x2 : Int32) (σ : wt_St) : Option (Nat × Int32 × wt_St) :=
  (wp_tg_has n 20 x1 σ).bind fun q1 =>
  if q1.1 = 0 then
    wp_ap_word_B16 n x1 x2 (1 : Int32) q1.2
  else
    wp_ap_word_B16 n x1 x2 (0 : Int32) q1.2
set_option maxRecDepth 100000 in
set_option maxHeartbeats 4000000 in
theorem wp_ap_word_ok {l : Launch} (htr : l.stackTraces = false) {w : wt_E} {n : Nat} {x1 : Int32} {x2 : Int32} (hD : ∀ i, i < 108 → wt_dom w i) {σ : wt_St} {q : Nat × Int32 × wt_St} (h : wp_ap_word n x1 x2 σ = some q) : wt_CtrX l w wt_y_ap_word prog_1_method_10_code 3 (some .int) 7 8 [.ref (wt_ad w 0), .int x1, .int x2] σ q.1 (some q.2.1) q.2.2 := by
  refine wt_ctrX htr wt_pl_ap_word rfl (Nat.le_of_ble_eq_true rfl) [some (.ref (wt_ad w 0)), some (.int x1), some (.int x2)] rfl ?_
  intro X hXl hXw hE hR
  subst hXl
  subst hXw
  have hE : wt_Ok X prog_1_method_10_code 3 "WornType" 7 8 := hE
  unfold wp_ap_word at h
  refine wt_aload_n hE wp_ap_word_d0 rfl ?_
  refine wt_getr hE (r := 20) wt_lf_ap_29 (hD 0 (Nat.le_of_ble_eq_true rfl)) wt_L0 rfl wp_ap_word_d1 ?_
  refine wt_iload_n hE wp_ap_word_d4 rfl ?_
  obtain ⟨q1, hq1, h⟩ := wt_bi h
  refine wt_callVi hE [.int x1] wt_lm_ap_215 wt_ya_tg_has (wp_tg_has_ok wt_isTongue_20 (fun j hj => hD (20 + j) (by omega)) hq1) (by omega) (hD 20 (Nat.le_of_ble_eq_true rfl)) wt_L20 rfl rfl rfl (Nat.le_of_ble_eq_true rfl) (by decide) wp_ap_word_d5 (fun hbq1 => ?_)
  refine wt_if_ne hE 15 wp_ap_word_d8 rfl (fun c2 => ?_) (fun c2 => ?_)
  · have h := wt_in c2 h
    refine wt_iconst hE (0 : Int32) wp_ap_word_d15 wt_ci_0 ?_
    exact wp_ap_word_B16_ok hE hR hD h
  · have h := wt_ip c2 h
    refine wt_iconst hE (1 : Int32) wp_ap_word_d11 wt_ci_1 ?_
    refine wt_goto hE 16 wp_ap_word_d12 rfl ?_
    exact wp_ap_word_B16_ok hE hR hD h
def wb42thm_prog_1_method_23_code_r1 : List (List Nat) := [184, 1, 54, 172] :: []
def wb42thm_prog_1_method_23_code_r0 : List (List Nat) := [42, 180, 0, 39, 27, 182, 0, 244, 154, 0, 7, 4, 167, 0, 4, 3, 184, 0, 219, 42, 180, 0, 75, 27, 182, 1, 50, 19, 1, 53] :: wb42thm_prog_1_method_23_code_r1
set_option maxRecDepth 100000 in
theorem wb42thm_prog_1_method_23_code_c0 : wt_cs prog_1_method_23_code 0 wb42thm_prog_1_method_23_code_r0 := wt_cs_of (by decide +kernel)
theorem wb42thm_prog_1_method_23_code_c1 : wt_cs prog_1_method_23_code 30 wb42thm_prog_1_method_23_code_r1 := wt_cs_tl (m := 30) wb42thm_prog_1_method_23_code_c0 rfl rfl
theorem wp_ap_wordings_d0 : decode prog_1_method_23_code 0 = .ok (.aload_n 0, 1) := wt_op42 wb42thm_prog_1_method_23_code_c0 0 rfl rfl
theorem wp_ap_wordings_d1 : decode prog_1_method_23_code 1 = .ok (.getfield 39, 3) := wt_op180 wb42thm_prog_1_method_23_code_c0 1 rfl rfl rfl
theorem wp_ap_wordings_d4 : decode prog_1_method_23_code 4 = .ok (.iload_n 1, 1) := wt_op27 wb42thm_prog_1_method_23_code_c0 4 rfl rfl
theorem wp_ap_wordings_d5 : decode prog_1_method_23_code 5 = .ok (.invokevirtual 244, 3) := wt_op182 wb42thm_prog_1_method_23_code_c0 5 rfl rfl rfl
theorem wp_ap_wordings_d8 : decode prog_1_method_23_code 8 = .ok (.ifCond .ne 7, 3) := wt_op154 wb42thm_prog_1_method_23_code_c0 8 rfl rfl rfl
theorem wp_ap_wordings_d11 : decode prog_1_method_23_code 11 = .ok (.iconst 1, 1) := wt_op4 wb42thm_prog_1_method_23_code_c0 11 rfl rfl
theorem wp_ap_wordings_d12 : decode prog_1_method_23_code 12 = .ok (.goto 4, 3) := wt_op167 wb42thm_prog_1_method_23_code_c0 12 rfl rfl rfl
theorem wp_ap_wordings_d15 : decode prog_1_method_23_code 15 = .ok (.iconst 0, 1) := wt_op3 wb42thm_prog_1_method_23_code_c0 15 rfl rfl
theorem wp_ap_wordings_d16 : decode prog_1_method_23_code 16 = .ok (.invokestatic 219, 3) := wt_op184 wb42thm_prog_1_method_23_code_c0 16 rfl rfl rfl
theorem wp_ap_wordings_d19 : decode prog_1_method_23_code 19 = .ok (.aload_n 0, 1) := wt_op42 wb42thm_prog_1_method_23_code_c0 19 rfl rfl
theorem wp_ap_wordings_d20 : decode prog_1_method_23_code 20 = .ok (.getfield 75, 3) := wt_op180 wb42thm_prog_1_method_23_code_c0 20 rfl rfl rfl
theorem wp_ap_wordings_d23 : decode prog_1_method_23_code 23 = .ok (.iload_n 1, 1) := wt_op27 wb42thm_prog_1_method_23_code_c0 23 rfl rfl
theorem wp_ap_wordings_d24 : decode prog_1_method_23_code 24 = .ok (.invokevirtual 306, 3) := wt_op182 wb42thm_prog_1_method_23_code_c0 24 rfl rfl rfl
theorem wp_ap_wordings_d27 : decode prog_1_method_23_code 27 = .ok (.ldc_w 309, 3) := wt_op19 wb42thm_prog_1_method_23_code_c0 27 rfl rfl rfl
theorem wp_ap_wordings_d30 : decode prog_1_method_23_code 30 = .ok (.invokestatic 310, 3) := wt_op184 wb42thm_prog_1_method_23_code_c1 0 rfl rfl rfl
theorem wp_ap_wordings_d33 : decode prog_1_method_23_code 33 = .ok (.ireturn, 1) := wt_op172 wb42thm_prog_1_method_23_code_c1 3 rfl rfl
noncomputable def wp_ap_wordings_B16 (n : Nat) (x1 : Int32) (y0 : Int32) (σ : wt_St) : Option (Nat × Int32 × wt_St) :=
  (wp_ap_miss n y0 σ).bind fun q3 =>
  if q3.1 = 0 then
  (wp_rw_howMany n x1 q3.2.2).bind fun q4 =>
  some (0, (if (1000000 : Int32) < q4.1 then (1000000 : Int32) else q4.1), q4.2)
  else some (q3.1, 0, q3.2.2)
set_option maxRecDepth 100000 in
set_option maxHeartbeats 4000000 in
theorem wp_ap_wordings_B16_ok  {x1 : Int32} {X : wt_X} {n : Nat} {res : Nat × Int32 × wt_St} (hE : wt_Ok X prog_1_method_23_code 2 "WornType" 7 8) (hR : wt_RtX X (some .int) 8 res.1 (some res.2.1) res.2.2) (hD : ∀ i, i < 108 → wt_dom (wt_xw X) i)  {σ : wt_St} {y0 : Int32} (h : wp_ap_wordings_B16 n x1 y0 σ = some res) : wt_V X 0 σ 16 [some (.ref (wt_ad (wt_xw X) 0)), some (.int x1)] [.int y0] := by
  unfold wp_ap_wordings_B16 at h
  obtain ⟨q3, hq3, h⟩ := wt_bi h
  refine wt_callSXv (mc := 8) (rt0 := (some .int)) hE [.int y0] wt_ld_ap_219 wt_ya_ap_miss (wp_ap_miss_ok hR.2.2.2 hq3) (by omega) rfl rfl (Nat.le_of_ble_eq_true rfl) (by decide) (by decide) wp_ap_wordings_d16 (fun he => ?_) (fun he => ?_)
  · have h := wt_in he h
    cases h
    exact ⟨_, hR⟩
  have h := wt_ip he h
  refine wt_aload_n hE wp_ap_wordings_d19 rfl ?_
  refine wt_getr hE (r := 81) wt_lf_ap_75 (hD 0 (Nat.le_of_ble_eq_true rfl)) wt_L0 rfl wp_ap_wordings_d20 ?_
  refine wt_iload_n hE wp_ap_wordings_d23 rfl ?_
  obtain ⟨q4, hq4, h⟩ := wt_bi h
  refine wt_callVi hE [.int x1] wt_lm_ap_306 wt_ya_rw_howMany (wp_rw_howMany_ok hD hq4) (by omega) (hD 81 (Nat.le_of_ble_eq_true rfl)) wt_L81 rfl rfl rfl (Nat.le_of_ble_eq_true rfl) (by decide) wp_ap_wordings_d24 (fun hbq4 => ?_)
  refine wt_ldcw hE (1000000 : Int32) wt_lc_ap_309 wp_ap_wordings_d27 ?_
  refine wt_min hE wt_lm_ap_310 wt_ms_min wt_mi wt_mc_min (by omega) (by decide) (Nat.le_of_ble_eq_true rfl) wp_ap_wordings_d30 ?_
  cases h
  exact wt_iretX hE hR (by decide) wp_ap_wordings_d33
noncomputable def wp_ap_wordings (n : Nat) (x1 : Int32) (σ : wt_St) : Option (Nat × Int32 × wt_St) :=
  (wp_tx_has n x1 σ).bind fun q1 =>
  if q1.1 = 0 then
    wp_ap_wordings_B16 n x1 (1 : Int32) q1.2
  else
    wp_ap_wordings_B16 n x1 (0 : Int32) q1.2
set_option maxRecDepth 100000 in
set_option maxHeartbeats 4000000 in
theorem wp_ap_wordings_ok {l : Launch} (htr : l.stackTraces = false) {w : wt_E} {n : Nat} {x1 : Int32} (hD : ∀ i, i < 108 → wt_dom w i) {σ : wt_St} {q : Nat × Int32 × wt_St} (h : wp_ap_wordings n x1 σ = some q) : wt_CtrX l w wt_y_ap_wordings prog_1_method_23_code 2 (some .int) 7 8 [.ref (wt_ad w 0), .int x1] σ q.1 (some q.2.1) q.2.2 := by
  refine wt_ctrX htr wt_pl_ap_wordings rfl (Nat.le_of_ble_eq_true rfl) [some (.ref (wt_ad w 0)), some (.int x1)] rfl ?_
  intro X hXl hXw hE hR
  subst hXl
  subst hXw
  have hE : wt_Ok X prog_1_method_23_code 2 "WornType" 7 8 := hE
  unfold wp_ap_wordings at h
  refine wt_aload_n hE wp_ap_wordings_d0 rfl ?_
  refine wt_getr hE (r := 34) wt_lf_ap_39 (hD 0 (Nat.le_of_ble_eq_true rfl)) wt_L0 rfl wp_ap_wordings_d1 ?_
  refine wt_iload_n hE wp_ap_wordings_d4 rfl ?_
  obtain ⟨q1, hq1, h⟩ := wt_bi h
  refine wt_callVi hE [.int x1] wt_lm_ap_244 wt_ya_tx_has (wp_tx_has_ok hD hq1) (by omega) (hD 34 (Nat.le_of_ble_eq_true rfl)) wt_L34 rfl rfl rfl (Nat.le_of_ble_eq_true rfl) (by decide) wp_ap_wordings_d5 (fun hbq1 => ?_)
  refine wt_if_ne hE 15 wp_ap_wordings_d8 rfl (fun c2 => ?_) (fun c2 => ?_)
  · have h := wt_in c2 h
    refine wt_iconst hE (0 : Int32) wp_ap_wordings_d15 wt_ci_0 ?_
    exact wp_ap_wordings_B16_ok hE hR hD h
  · have h := wt_ip c2 h
    refine wt_iconst hE (1 : Int32) wp_ap_wordings_d11 wt_ci_1 ?_
    refine wt_goto hE 16 wp_ap_wordings_d12 rfl ?_
    exact wp_ap_wordings_B16_ok hE hR hD h
end WX9
