section WW0
abbrev wt_y_lw_apart : MethodName := ⟨"WornTypeLaw", "apart", "(LWornType;I[J)I"⟩
abbrev wt_hh_apart : List (Nat × Nat × Nat × Nat) := [(0, 9, 12, 37)]
set_option maxRecDepth 100000 in
theorem wt_cm_apart : Cond.codeWith wt_y_lw_apart method_17_code 4 (some .int) wt_hh_apart ∈ wt_GT := (wt_g5 112 rfl rfl)
def wb602ww_method_17_code_r0 : List (List Nat) := [44, 3, 42, 27, 182, 0, 60, 133, 80, 167, 0, 6, 78, 4, 172, 3, 172] :: []
set_option maxRecDepth 100000 in
theorem wb602ww_method_17_code_c0 : wt_cs method_17_code 0 wb602ww_method_17_code_r0 := wt_cs_of (by decide +kernel)
theorem ww_apart_d0 : decode method_17_code 0 = .ok (.aload_n 2, 1) := wt_op44 wb602ww_method_17_code_c0 0 rfl rfl
theorem ww_apart_d1 : decode method_17_code 1 = .ok (.iconst 0, 1) := wt_op3 wb602ww_method_17_code_c0 1 rfl rfl
theorem ww_apart_d2 : decode method_17_code 2 = .ok (.aload_n 0, 1) := wt_op42 wb602ww_method_17_code_c0 2 rfl rfl
theorem ww_apart_d3 : decode method_17_code 3 = .ok (.iload_n 1, 1) := wt_op27 wb602ww_method_17_code_c0 3 rfl rfl
theorem ww_apart_d4 : decode method_17_code 4 = .ok (.invokevirtual 60, 3) := wt_op182 wb602ww_method_17_code_c0 4 rfl rfl rfl
theorem ww_apart_d7 : decode method_17_code 7 = .ok (.i2l, 1) := wt_op133 wb602ww_method_17_code_c0 7 rfl rfl
theorem ww_apart_d8 : decode method_17_code 8 = .ok (.lastore, 1) := wt_op80 wb602ww_method_17_code_c0 8 rfl rfl
theorem ww_apart_d9 : decode method_17_code 9 = .ok (.goto 6, 3) := wt_op167 wb602ww_method_17_code_c0 9 rfl rfl rfl
theorem ww_apart_d12 : decode method_17_code 12 = .ok (.astore_n 3, 1) := wt_op78 wb602ww_method_17_code_c0 12 rfl rfl
theorem ww_apart_d13 : decode method_17_code 13 = .ok (.iconst 1, 1) := wt_op4 wb602ww_method_17_code_c0 13 rfl rfl
theorem ww_apart_d14 : decode method_17_code 14 = .ok (.ireturn, 1) := wt_op172 wb602ww_method_17_code_c0 14 rfl rfl
theorem ww_apart_d15 : decode method_17_code 15 = .ok (.iconst 0, 1) := wt_op3 wb602ww_method_17_code_c0 15 rfl rfl
theorem ww_apart_d16 : decode method_17_code 16 = .ok (.ireturn, 1) := wt_op172 wb602ww_method_17_code_c0 16 rfl rfl
set_option maxRecDepth 100000 in
set_option maxHeartbeats 4000000 in
theorem ww_apart_ok {l : Launch} (htr : l.stackTraces = false) {w : wt_E} {o : Nat} (hod : ∀ i, wt_dom w i → wt_ad w i ≠ o) (hD : ∀ i, i < 108 → wt_dom w i) {n : Nat} {x1 : Int32} {σ : wt_St} {q : Nat × Int32 × wt_St} (h : wp_ap_apart n x1 σ = some q) (hx : q.1 = 0 ∨ q.1 = 2) : wt_CtrW l w o wt_y_lw_apart method_17_code 4 wt_hh_apart 8 8 [.ref (wt_ad w 0), .int x1, .ref o] σ q.2.2 := by
  refine wt_ctrW htr hod (by decide +kernel) wt_cm_apart rfl (Nat.le_of_ble_eq_true rfl) [some (.ref (wt_ad w 0)), some (.int x1), some (.ref o), none] rfl ?_
  intro X hXl hXw hE hR
  subst hXl
  subst hXw
  have hE : wt_OkO X o method_17_code 4 "WornTypeLaw" 8 8 := hE
  refine wt_o_aload_n hE ww_apart_d0 rfl ?_
  refine wt_o_iconst hE (0 : Int32) ww_apart_d1 (by decide) ?_
  refine wt_o_aload_n hE ww_apart_d2 rfl ?_
  refine wt_o_iload_n hE ww_apart_d3 rfl ?_
  refine wt_o_callX hE hR (dd := 7) [.int x1] wt_lm_lw_60 (wt_g5 113 rfl rfl) wt_ya_ap_apart (wp_ap_apart_ok htr hD h) (by decide) (hD 0 (by decide)) wt_L0 rfl rfl rfl (Nat.le_of_ble_eq_true rfl) (by decide) ww_apart_d4 (fun he => ?_) (fun he => ?_)
  · rcases hx with hx | hx
    · exact absurd hx he
    · rw [hx]
      refine ⟨12, ⟨[], ⟨0, 9, 12, 37⟩, [], "java/util/NoSuchElementException", rfl, (fun z hz => by cases hz), rfl, by decide, (wt_g4 195 rfl rfl), (wt_n4 209 rfl rfl), rfl⟩, fun q9 => ?_⟩
      refine wt_o_astore_n hE [some (.ref (wt_ad (wt_xw X) 0)), some (.int x1), some (.ref o), some (.ref q9)] ww_apart_d12 (by decide) rfl ?_
      refine wt_o_iconst hE (1 : Int32) ww_apart_d13 (by decide) ?_
      exact wt_o_ret hE hR (by decide) ww_apart_d14
  refine wt_o_put hE ww_apart_d7 ww_apart_d8 ?_
  refine wt_o_goto hE 15 ww_apart_d9 rfl ?_
  refine wt_o_iconst hE (0 : Int32) ww_apart_d15 (by decide) ?_
  exact wt_o_ret hE hR (by decide) ww_apart_d16
abbrev wt_y_lw_at : MethodName := ⟨"WornTypeLaw", "at", "(LWornType;II[J)I"⟩
abbrev wt_hh_at : List (Nat × Nat × Nat × Nat) := [(0, 10, 13, 37)]
set_option maxRecDepth 100000 in
theorem wt_cm_at : Cond.codeWith wt_y_lw_at method_10_code 5 (some .int) wt_hh_at ∈ wt_GT := (wt_g5 8 rfl rfl)
def wb602ww_method_10_code_r0 : List (List Nat) := [45, 3, 42, 27, 28, 182, 0, 39, 133, 80, 167, 0, 7, 58, 4, 4, 172, 3, 172] :: []
set_option maxRecDepth 100000 in
theorem wb602ww_method_10_code_c0 : wt_cs method_10_code 0 wb602ww_method_10_code_r0 := wt_cs_of (by decide +kernel)
theorem ww_at_d0 : decode method_10_code 0 = .ok (.aload_n 3, 1) := wt_op45 wb602ww_method_10_code_c0 0 rfl rfl
theorem ww_at_d1 : decode method_10_code 1 = .ok (.iconst 0, 1) := wt_op3 wb602ww_method_10_code_c0 1 rfl rfl
theorem ww_at_d2 : decode method_10_code 2 = .ok (.aload_n 0, 1) := wt_op42 wb602ww_method_10_code_c0 2 rfl rfl
theorem ww_at_d3 : decode method_10_code 3 = .ok (.iload_n 1, 1) := wt_op27 wb602ww_method_10_code_c0 3 rfl rfl
theorem ww_at_d4 : decode method_10_code 4 = .ok (.iload_n 2, 1) := wt_op28 wb602ww_method_10_code_c0 4 rfl rfl
theorem ww_at_d5 : decode method_10_code 5 = .ok (.invokevirtual 39, 3) := wt_op182 wb602ww_method_10_code_c0 5 rfl rfl rfl
theorem ww_at_d8 : decode method_10_code 8 = .ok (.i2l, 1) := wt_op133 wb602ww_method_10_code_c0 8 rfl rfl
theorem ww_at_d9 : decode method_10_code 9 = .ok (.lastore, 1) := wt_op80 wb602ww_method_10_code_c0 9 rfl rfl
theorem ww_at_d10 : decode method_10_code 10 = .ok (.goto 7, 3) := wt_op167 wb602ww_method_10_code_c0 10 rfl rfl rfl
theorem ww_at_d13 : decode method_10_code 13 = .ok (.astore 4, 2) := wt_op58 wb602ww_method_10_code_c0 13 rfl rfl
theorem ww_at_d15 : decode method_10_code 15 = .ok (.iconst 1, 1) := wt_op4 wb602ww_method_10_code_c0 15 rfl rfl
theorem ww_at_d16 : decode method_10_code 16 = .ok (.ireturn, 1) := wt_op172 wb602ww_method_10_code_c0 16 rfl rfl
theorem ww_at_d17 : decode method_10_code 17 = .ok (.iconst 0, 1) := wt_op3 wb602ww_method_10_code_c0 17 rfl rfl
theorem ww_at_d18 : decode method_10_code 18 = .ok (.ireturn, 1) := wt_op172 wb602ww_method_10_code_c0 18 rfl rfl
set_option maxRecDepth 100000 in
set_option maxHeartbeats 4000000 in
theorem ww_at_ok {l : Launch} (htr : l.stackTraces = false) {w : wt_E} {o : Nat} (hod : ∀ i, wt_dom w i → wt_ad w i ≠ o) (hD : ∀ i, i < 108 → wt_dom w i) {n : Nat} {x1 : Int32} {x2 : Int32} {σ : wt_St} {q : Nat × Int32 × wt_St} (h : wp_ap_at n x1 x2 σ = some q) (hx : q.1 = 0 ∨ q.1 = 2) : wt_CtrW l w o wt_y_lw_at method_10_code 5 wt_hh_at 8 8 [.ref (wt_ad w 0), .int x1, .int x2, .ref o] σ q.2.2 := by
  refine wt_ctrW htr hod (by decide +kernel) wt_cm_at rfl (Nat.le_of_ble_eq_true rfl) [some (.ref (wt_ad w 0)), some (.int x1), some (.int x2), some (.ref o), none] rfl ?_
  intro X hXl hXw hE hR
  subst hXl
  subst hXw
  have hE : wt_OkO X o method_10_code 5 "WornTypeLaw" 8 8 := hE
  refine wt_o_aload_n hE ww_at_d0 rfl ?_
  refine wt_o_iconst hE (0 : Int32) ww_at_d1 (by decide) ?_
  refine wt_o_aload_n hE ww_at_d2 rfl ?_
  refine wt_o_iload_n hE ww_at_d3 rfl ?_
  refine wt_o_iload_n hE ww_at_d4 rfl ?_
  refine wt_o_callX hE hR (dd := 7) [.int x1, .int x2] wt_lm_lw_39 (wt_g5 9 rfl rfl) wt_ya_ap_at (wp_ap_at_ok htr hD h) (by decide) (hD 0 (by decide)) wt_L0 rfl rfl rfl (Nat.le_of_ble_eq_true rfl) (by decide) ww_at_d5 (fun he => ?_) (fun he => ?_)
  · rcases hx with hx | hx
    · exact absurd hx he
    · rw [hx]
      refine ⟨13, ⟨[], ⟨0, 10, 13, 37⟩, [], "java/util/NoSuchElementException", rfl, (fun z hz => by cases hz), rfl, by decide, (wt_g4 195 rfl rfl), (wt_n4 209 rfl rfl), rfl⟩, fun q9 => ?_⟩
      refine wt_o_astore hE [some (.ref (wt_ad (wt_xw X) 0)), some (.int x1), some (.int x2), some (.ref o), some (.ref q9)] ww_at_d13 (by decide) rfl ?_
      refine wt_o_iconst hE (1 : Int32) ww_at_d15 (by decide) ?_
      exact wt_o_ret hE hR (by decide) ww_at_d16
  refine wt_o_put hE ww_at_d8 ww_at_d9 ?_
  refine wt_o_goto hE 17 ww_at_d10 rfl ?_
  refine wt_o_iconst hE (0 : Int32) ww_at_d17 (by decide) ?_
  exact wt_o_ret hE hR (by decide) ww_at_d18
abbrev wt_y_lw_can : MethodName := ⟨"WornTypeLaw", "can", "(LWornType;I[J)I"⟩
abbrev wt_hh_can : List (Nat × Nat × Nat × Nat) := [(0, 9, 12, 37)]
set_option maxRecDepth 100000 in
theorem wt_cm_can : Cond.codeWith wt_y_lw_can method_13_code 4 (some .int) wt_hh_can ∈ wt_GT := (wt_g5 42 rfl rfl)
def wb602ww_method_13_code_r0 : List (List Nat) := [44, 3, 42, 27, 182, 0, 48, 133, 80, 167, 0, 6, 78, 4, 172, 3, 172] :: []
set_option maxRecDepth 100000 in
theorem wb602ww_method_13_code_c0 : wt_cs method_13_code 0 wb602ww_method_13_code_r0 := wt_cs_of (by decide +kernel)
theorem ww_can_d0 : decode method_13_code 0 = .ok (.aload_n 2, 1) := wt_op44 wb602ww_method_13_code_c0 0 rfl rfl
theorem ww_can_d1 : decode method_13_code 1 = .ok (.iconst 0, 1) := wt_op3 wb602ww_method_13_code_c0 1 rfl rfl
theorem ww_can_d2 : decode method_13_code 2 = .ok (.aload_n 0, 1) := wt_op42 wb602ww_method_13_code_c0 2 rfl rfl
theorem ww_can_d3 : decode method_13_code 3 = .ok (.iload_n 1, 1) := wt_op27 wb602ww_method_13_code_c0 3 rfl rfl
theorem ww_can_d4 : decode method_13_code 4 = .ok (.invokevirtual 48, 3) := wt_op182 wb602ww_method_13_code_c0 4 rfl rfl rfl
theorem ww_can_d7 : decode method_13_code 7 = .ok (.i2l, 1) := wt_op133 wb602ww_method_13_code_c0 7 rfl rfl
theorem ww_can_d8 : decode method_13_code 8 = .ok (.lastore, 1) := wt_op80 wb602ww_method_13_code_c0 8 rfl rfl
theorem ww_can_d9 : decode method_13_code 9 = .ok (.goto 6, 3) := wt_op167 wb602ww_method_13_code_c0 9 rfl rfl rfl
theorem ww_can_d12 : decode method_13_code 12 = .ok (.astore_n 3, 1) := wt_op78 wb602ww_method_13_code_c0 12 rfl rfl
theorem ww_can_d13 : decode method_13_code 13 = .ok (.iconst 1, 1) := wt_op4 wb602ww_method_13_code_c0 13 rfl rfl
theorem ww_can_d14 : decode method_13_code 14 = .ok (.ireturn, 1) := wt_op172 wb602ww_method_13_code_c0 14 rfl rfl
theorem ww_can_d15 : decode method_13_code 15 = .ok (.iconst 0, 1) := wt_op3 wb602ww_method_13_code_c0 15 rfl rfl
theorem ww_can_d16 : decode method_13_code 16 = .ok (.ireturn, 1) := wt_op172 wb602ww_method_13_code_c0 16 rfl rfl
set_option maxRecDepth 100000 in
set_option maxHeartbeats 4000000 in
theorem ww_can_ok {l : Launch} (htr : l.stackTraces = false) {w : wt_E} {o : Nat} (hod : ∀ i, wt_dom w i → wt_ad w i ≠ o) (hD : ∀ i, i < 108 → wt_dom w i) {n : Nat} {x1 : Int32} {σ : wt_St} {q : Nat × Int32 × wt_St} (h : wp_ap_can n x1 σ = some q) (hx : q.1 = 0 ∨ q.1 = 2) : wt_CtrW l w o wt_y_lw_can method_13_code 4 wt_hh_can 8 8 [.ref (wt_ad w 0), .int x1, .ref o] σ q.2.2 := by
  refine wt_ctrW htr hod (by decide +kernel) wt_cm_can rfl (Nat.le_of_ble_eq_true rfl) [some (.ref (wt_ad w 0)), some (.int x1), some (.ref o), none] rfl ?_
  intro X hXl hXw hE hR
  subst hXl
  subst hXw
  have hE : wt_OkO X o method_13_code 4 "WornTypeLaw" 8 8 := hE
  refine wt_o_aload_n hE ww_can_d0 rfl ?_
  refine wt_o_iconst hE (0 : Int32) ww_can_d1 (by decide) ?_
  refine wt_o_aload_n hE ww_can_d2 rfl ?_
  refine wt_o_iload_n hE ww_can_d3 rfl ?_
  refine wt_o_callX hE hR (dd := 7) [.int x1] wt_lm_lw_48 (wt_g5 43 rfl rfl) wt_ya_ap_can (wp_ap_can_ok htr hD h) (by decide) (hD 0 (by decide)) wt_L0 rfl rfl rfl (Nat.le_of_ble_eq_true rfl) (by decide) ww_can_d4 (fun he => ?_) (fun he => ?_)
  · rcases hx with hx | hx
    · exact absurd hx he
    · rw [hx]
      refine ⟨12, ⟨[], ⟨0, 9, 12, 37⟩, [], "java/util/NoSuchElementException", rfl, (fun z hz => by cases hz), rfl, by decide, (wt_g4 195 rfl rfl), (wt_n4 209 rfl rfl), rfl⟩, fun q9 => ?_⟩
      refine wt_o_astore_n hE [some (.ref (wt_ad (wt_xw X) 0)), some (.int x1), some (.ref o), some (.ref q9)] ww_can_d12 (by decide) rfl ?_
      refine wt_o_iconst hE (1 : Int32) ww_can_d13 (by decide) ?_
      exact wt_o_ret hE hR (by decide) ww_can_d14
  refine wt_o_put hE ww_can_d7 ww_can_d8 ?_
  refine wt_o_goto hE 15 ww_can_d9 rfl ?_
  refine wt_o_iconst hE (0 : Int32) ww_can_d15 (by decide) ?_
  exact wt_o_ret hE hR (by decide) ww_can_d16
abbrev wt_y_lw_cast : MethodName := ⟨"WornTypeLaw", "cast", "(LWornType;II[J)I"⟩
abbrev wt_hh_cast : List (Nat × Nat × Nat × Nat) := [(0, 10, 13, 37), (0, 10, 17, 13)]
set_option maxRecDepth 100000 in
theorem wt_cm_cast : Cond.codeWith wt_y_lw_cast method_30_code 5 (some .int) wt_hh_cast ∈ wt_GT := (wt_g6 162 rfl rfl)
def wb602ww_method_30_code_r0 : List (List Nat) := [45, 3, 42, 27, 28, 182, 0, 100, 133, 80, 167, 0, 11, 58, 4, 4, 172, 58, 4, 5, 172, 3, 172] :: []
set_option maxRecDepth 100000 in
theorem wb602ww_method_30_code_c0 : wt_cs method_30_code 0 wb602ww_method_30_code_r0 := wt_cs_of (by decide +kernel)
theorem ww_cast_d0 : decode method_30_code 0 = .ok (.aload_n 3, 1) := wt_op45 wb602ww_method_30_code_c0 0 rfl rfl
theorem ww_cast_d1 : decode method_30_code 1 = .ok (.iconst 0, 1) := wt_op3 wb602ww_method_30_code_c0 1 rfl rfl
theorem ww_cast_d2 : decode method_30_code 2 = .ok (.aload_n 0, 1) := wt_op42 wb602ww_method_30_code_c0 2 rfl rfl
theorem ww_cast_d3 : decode method_30_code 3 = .ok (.iload_n 1, 1) := wt_op27 wb602ww_method_30_code_c0 3 rfl rfl
theorem ww_cast_d4 : decode method_30_code 4 = .ok (.iload_n 2, 1) := wt_op28 wb602ww_method_30_code_c0 4 rfl rfl
theorem ww_cast_d5 : decode method_30_code 5 = .ok (.invokevirtual 100, 3) := wt_op182 wb602ww_method_30_code_c0 5 rfl rfl rfl
theorem ww_cast_d8 : decode method_30_code 8 = .ok (.i2l, 1) := wt_op133 wb602ww_method_30_code_c0 8 rfl rfl
theorem ww_cast_d9 : decode method_30_code 9 = .ok (.lastore, 1) := wt_op80 wb602ww_method_30_code_c0 9 rfl rfl
theorem ww_cast_d10 : decode method_30_code 10 = .ok (.goto 11, 3) := wt_op167 wb602ww_method_30_code_c0 10 rfl rfl rfl
theorem ww_cast_d13 : decode method_30_code 13 = .ok (.astore 4, 2) := wt_op58 wb602ww_method_30_code_c0 13 rfl rfl
theorem ww_cast_d15 : decode method_30_code 15 = .ok (.iconst 1, 1) := wt_op4 wb602ww_method_30_code_c0 15 rfl rfl
theorem ww_cast_d16 : decode method_30_code 16 = .ok (.ireturn, 1) := wt_op172 wb602ww_method_30_code_c0 16 rfl rfl
theorem ww_cast_d17 : decode method_30_code 17 = .ok (.astore 4, 2) := wt_op58 wb602ww_method_30_code_c0 17 rfl rfl
theorem ww_cast_d19 : decode method_30_code 19 = .ok (.iconst 2, 1) := wt_op5 wb602ww_method_30_code_c0 19 rfl rfl
theorem ww_cast_d20 : decode method_30_code 20 = .ok (.ireturn, 1) := wt_op172 wb602ww_method_30_code_c0 20 rfl rfl
theorem ww_cast_d21 : decode method_30_code 21 = .ok (.iconst 0, 1) := wt_op3 wb602ww_method_30_code_c0 21 rfl rfl
theorem ww_cast_d22 : decode method_30_code 22 = .ok (.ireturn, 1) := wt_op172 wb602ww_method_30_code_c0 22 rfl rfl
set_option maxRecDepth 100000 in
set_option maxHeartbeats 4000000 in
theorem ww_cast_ok {l : Launch} (htr : l.stackTraces = false) {w : wt_E} {o : Nat} (hod : ∀ i, wt_dom w i → wt_ad w i ≠ o) (hD : ∀ i, i < 108 → wt_dom w i) {n : Nat} {x1 : Int32} {x2 : Int32} {σ : wt_St} {q : Nat × Int32 × wt_St} (h : wp_ap_cast n x1 x2 σ = some q) (hx : q.1 = 0 ∨ q.1 = 2 ∨ q.1 = 1) : wt_CtrW l w o wt_y_lw_cast method_30_code 5 wt_hh_cast 9 8 [.ref (wt_ad w 0), .int x1, .int x2, .ref o] σ q.2.2 := by
  refine wt_ctrW htr hod (by decide +kernel) wt_cm_cast rfl (Nat.le_of_ble_eq_true rfl) [some (.ref (wt_ad w 0)), some (.int x1), some (.int x2), some (.ref o), none] rfl ?_
  intro X hXl hXw hE hR
  subst hXl
  subst hXw
  have hE : wt_OkO X o method_30_code 5 "WornTypeLaw" 9 8 := hE
  refine wt_o_aload_n hE ww_cast_d0 rfl ?_
  refine wt_o_iconst hE (0 : Int32) ww_cast_d1 (by decide) ?_
  refine wt_o_aload_n hE ww_cast_d2 rfl ?_
  refine wt_o_iload_n hE ww_cast_d3 rfl ?_
  refine wt_o_iload_n hE ww_cast_d4 rfl ?_
  refine wt_o_callX hE hR (dd := 8) [.int x1, .int x2] wt_lm_lw_100 (wt_g6 163 rfl rfl) wt_ya_ap_cast (wp_ap_cast_ok htr hD h) (by decide) (hD 0 (by decide)) wt_L0 rfl rfl rfl (Nat.le_of_ble_eq_true rfl) (by decide) ww_cast_d5 (fun he => ?_) (fun he => ?_)
  · rcases hx with hx | hx | hx
    · exact absurd hx he
    · rw [hx]
      refine ⟨13, ⟨[], ⟨0, 10, 13, 37⟩, [⟨0, 10, 17, 13⟩], "java/util/NoSuchElementException", rfl, (fun z hz => by cases hz), rfl, by decide, (wt_g4 195 rfl rfl), (wt_n4 209 rfl rfl), rfl⟩, fun q9 => ?_⟩
      refine wt_o_astore hE [some (.ref (wt_ad (wt_xw X) 0)), some (.int x1), some (.int x2), some (.ref o), some (.ref q9)] ww_cast_d13 (by decide) rfl ?_
      refine wt_o_iconst hE (1 : Int32) ww_cast_d15 (by decide) ?_
      exact wt_o_ret hE hR (by decide) ww_cast_d16
    · rw [hx]
      refine ⟨17, ⟨[⟨0, 10, 13, 37⟩], ⟨0, 10, 17, 13⟩, [], "java/lang/IllegalArgumentException", rfl, (fun z hz => Or.inr (by cases List.mem_singleton.mp hz; exact ⟨by decide, "java/util/NoSuchElementException", (wt_g4 195 rfl rfl), hR.2.2.2.2.1⟩)), rfl, by decide, (wt_g3 56 rfl rfl), (wt_n3 66 rfl rfl), rfl⟩, fun q9 => ?_⟩
      refine wt_o_astore hE [some (.ref (wt_ad (wt_xw X) 0)), some (.int x1), some (.int x2), some (.ref o), some (.ref q9)] ww_cast_d17 (by decide) rfl ?_
      refine wt_o_iconst hE (2 : Int32) ww_cast_d19 (by decide) ?_
      exact wt_o_ret hE hR (by decide) ww_cast_d20
  refine wt_o_put hE ww_cast_d8 ww_cast_d9 ?_
  refine wt_o_goto hE 21 ww_cast_d10 rfl ?_
  refine wt_o_iconst hE (0 : Int32) ww_cast_d21 (by decide) ?_
  exact wt_o_ret hE hR (by decide) ww_cast_d22
abbrev wt_y_lw_ends : MethodName := ⟨"WornTypeLaw", "ends", "(LWornType;I[J)I"⟩
abbrev wt_hh_ends : List (Nat × Nat × Nat × Nat) := [(0, 9, 12, 37)]
set_option maxRecDepth 100000 in
theorem wt_cm_ends : Cond.codeWith wt_y_lw_ends method_28_code 4 (some .int) wt_hh_ends ∈ wt_GT := (wt_g6 112 rfl rfl)
def wb602ww_method_28_code_r0 : List (List Nat) := [44, 3, 42, 27, 182, 0, 94, 133, 80, 167, 0, 6, 78, 4, 172, 3, 172] :: []
set_option maxRecDepth 100000 in
theorem wb602ww_method_28_code_c0 : wt_cs method_28_code 0 wb602ww_method_28_code_r0 := wt_cs_of (by decide +kernel)
theorem ww_ends_d0 : decode method_28_code 0 = .ok (.aload_n 2, 1) := wt_op44 wb602ww_method_28_code_c0 0 rfl rfl
theorem ww_ends_d1 : decode method_28_code 1 = .ok (.iconst 0, 1) := wt_op3 wb602ww_method_28_code_c0 1 rfl rfl
theorem ww_ends_d2 : decode method_28_code 2 = .ok (.aload_n 0, 1) := wt_op42 wb602ww_method_28_code_c0 2 rfl rfl
theorem ww_ends_d3 : decode method_28_code 3 = .ok (.iload_n 1, 1) := wt_op27 wb602ww_method_28_code_c0 3 rfl rfl
theorem ww_ends_d4 : decode method_28_code 4 = .ok (.invokevirtual 94, 3) := wt_op182 wb602ww_method_28_code_c0 4 rfl rfl rfl
theorem ww_ends_d7 : decode method_28_code 7 = .ok (.i2l, 1) := wt_op133 wb602ww_method_28_code_c0 7 rfl rfl
theorem ww_ends_d8 : decode method_28_code 8 = .ok (.lastore, 1) := wt_op80 wb602ww_method_28_code_c0 8 rfl rfl
theorem ww_ends_d9 : decode method_28_code 9 = .ok (.goto 6, 3) := wt_op167 wb602ww_method_28_code_c0 9 rfl rfl rfl
theorem ww_ends_d12 : decode method_28_code 12 = .ok (.astore_n 3, 1) := wt_op78 wb602ww_method_28_code_c0 12 rfl rfl
theorem ww_ends_d13 : decode method_28_code 13 = .ok (.iconst 1, 1) := wt_op4 wb602ww_method_28_code_c0 13 rfl rfl
theorem ww_ends_d14 : decode method_28_code 14 = .ok (.ireturn, 1) := wt_op172 wb602ww_method_28_code_c0 14 rfl rfl
theorem ww_ends_d15 : decode method_28_code 15 = .ok (.iconst 0, 1) := wt_op3 wb602ww_method_28_code_c0 15 rfl rfl
theorem ww_ends_d16 : decode method_28_code 16 = .ok (.ireturn, 1) := wt_op172 wb602ww_method_28_code_c0 16 rfl rfl
set_option maxRecDepth 100000 in
set_option maxHeartbeats 4000000 in
theorem ww_ends_ok {l : Launch} (htr : l.stackTraces = false) {w : wt_E} {o : Nat} (hod : ∀ i, wt_dom w i → wt_ad w i ≠ o) (hD : ∀ i, i < 108 → wt_dom w i) {n : Nat} {x1 : Int32} {σ : wt_St} {q : Nat × Int32 × wt_St} (h : wp_ap_ends n x1 σ = some q) (hx : q.1 = 0 ∨ q.1 = 2) : wt_CtrW l w o wt_y_lw_ends method_28_code 4 wt_hh_ends 8 8 [.ref (wt_ad w 0), .int x1, .ref o] σ q.2.2 := by
  refine wt_ctrW htr hod (by decide +kernel) wt_cm_ends rfl (Nat.le_of_ble_eq_true rfl) [some (.ref (wt_ad w 0)), some (.int x1), some (.ref o), none] rfl ?_
  intro X hXl hXw hE hR
  subst hXl
  subst hXw
  have hE : wt_OkO X o method_28_code 4 "WornTypeLaw" 8 8 := hE
  refine wt_o_aload_n hE ww_ends_d0 rfl ?_
  refine wt_o_iconst hE (0 : Int32) ww_ends_d1 (by decide) ?_
  refine wt_o_aload_n hE ww_ends_d2 rfl ?_
  refine wt_o_iload_n hE ww_ends_d3 rfl ?_
  refine wt_o_callX hE hR (dd := 7) [.int x1] wt_lm_lw_94 (wt_g6 113 rfl rfl) wt_ya_ap_ends (wp_ap_ends_ok htr hD h) (by decide) (hD 0 (by decide)) wt_L0 rfl rfl rfl (Nat.le_of_ble_eq_true rfl) (by decide) ww_ends_d4 (fun he => ?_) (fun he => ?_)
  · rcases hx with hx | hx
    · exact absurd hx he
    · rw [hx]
      refine ⟨12, ⟨[], ⟨0, 9, 12, 37⟩, [], "java/util/NoSuchElementException", rfl, (fun z hz => by cases hz), rfl, by decide, (wt_g4 195 rfl rfl), (wt_n4 209 rfl rfl), rfl⟩, fun q9 => ?_⟩
      refine wt_o_astore_n hE [some (.ref (wt_ad (wt_xw X) 0)), some (.int x1), some (.ref o), some (.ref q9)] ww_ends_d12 (by decide) rfl ?_
      refine wt_o_iconst hE (1 : Int32) ww_ends_d13 (by decide) ?_
      exact wt_o_ret hE hR (by decide) ww_ends_d14
  refine wt_o_put hE ww_ends_d7 ww_ends_d8 ?_
  refine wt_o_goto hE 15 ww_ends_d9 rfl ?_
  refine wt_o_iconst hE (0 : Int32) ww_ends_d15 (by decide) ?_
  exact wt_o_ret hE hR (by decide) ww_ends_d16
abbrev wt_y_lw_exchange : MethodName := ⟨"WornTypeLaw", "exchange", "(LWornType;I[J)I"⟩
abbrev wt_hh_exchange : List (Nat × Nat × Nat × Nat) := [(0, 9, 12, 37)]
set_option maxRecDepth 100000 in
theorem wt_cm_exchange : Cond.codeWith wt_y_lw_exchange method_29_code 4 (some .int) wt_hh_exchange ∈ wt_GT := (wt_g6 123 rfl rfl)
def wb602ww_method_29_code_r0 : List (List Nat) := [44, 3, 42, 27, 182, 0, 97, 133, 80, 167, 0, 6, 78, 4, 172, 3, 172] :: []
set_option maxRecDepth 100000 in
theorem wb602ww_method_29_code_c0 : wt_cs method_29_code 0 wb602ww_method_29_code_r0 := wt_cs_of (by decide +kernel)
theorem ww_exchange_d0 : decode method_29_code 0 = .ok (.aload_n 2, 1) := wt_op44 wb602ww_method_29_code_c0 0 rfl rfl
theorem ww_exchange_d1 : decode method_29_code 1 = .ok (.iconst 0, 1) := wt_op3 wb602ww_method_29_code_c0 1 rfl rfl
theorem ww_exchange_d2 : decode method_29_code 2 = .ok (.aload_n 0, 1) := wt_op42 wb602ww_method_29_code_c0 2 rfl rfl
theorem ww_exchange_d3 : decode method_29_code 3 = .ok (.iload_n 1, 1) := wt_op27 wb602ww_method_29_code_c0 3 rfl rfl
theorem ww_exchange_d4 : decode method_29_code 4 = .ok (.invokevirtual 97, 3) := wt_op182 wb602ww_method_29_code_c0 4 rfl rfl rfl
theorem ww_exchange_d7 : decode method_29_code 7 = .ok (.i2l, 1) := wt_op133 wb602ww_method_29_code_c0 7 rfl rfl
theorem ww_exchange_d8 : decode method_29_code 8 = .ok (.lastore, 1) := wt_op80 wb602ww_method_29_code_c0 8 rfl rfl
theorem ww_exchange_d9 : decode method_29_code 9 = .ok (.goto 6, 3) := wt_op167 wb602ww_method_29_code_c0 9 rfl rfl rfl
theorem ww_exchange_d12 : decode method_29_code 12 = .ok (.astore_n 3, 1) := wt_op78 wb602ww_method_29_code_c0 12 rfl rfl
theorem ww_exchange_d13 : decode method_29_code 13 = .ok (.iconst 1, 1) := wt_op4 wb602ww_method_29_code_c0 13 rfl rfl
theorem ww_exchange_d14 : decode method_29_code 14 = .ok (.ireturn, 1) := wt_op172 wb602ww_method_29_code_c0 14 rfl rfl
theorem ww_exchange_d15 : decode method_29_code 15 = .ok (.iconst 0, 1) := wt_op3 wb602ww_method_29_code_c0 15 rfl rfl
theorem ww_exchange_d16 : decode method_29_code 16 = .ok (.ireturn, 1) := wt_op172 wb602ww_method_29_code_c0 16 rfl rfl
set_option maxRecDepth 100000 in
set_option maxHeartbeats 4000000 in
theorem ww_exchange_ok {l : Launch} (htr : l.stackTraces = false) {w : wt_E} {o : Nat} (hod : ∀ i, wt_dom w i → wt_ad w i ≠ o) (hD : ∀ i, i < 108 → wt_dom w i) {n : Nat} {x1 : Int32} {σ : wt_St} {q : Nat × Int32 × wt_St} (h : wp_ap_exchange n x1 σ = some q) (hx : q.1 = 0 ∨ q.1 = 2) : wt_CtrW l w o wt_y_lw_exchange method_29_code 4 wt_hh_exchange 8 8 [.ref (wt_ad w 0), .int x1, .ref o] σ q.2.2 := by
  refine wt_ctrW htr hod (by decide +kernel) wt_cm_exchange rfl (Nat.le_of_ble_eq_true rfl) [some (.ref (wt_ad w 0)), some (.int x1), some (.ref o), none] rfl ?_
  intro X hXl hXw hE hR
  subst hXl
  subst hXw
  have hE : wt_OkO X o method_29_code 4 "WornTypeLaw" 8 8 := hE
  refine wt_o_aload_n hE ww_exchange_d0 rfl ?_
  refine wt_o_iconst hE (0 : Int32) ww_exchange_d1 (by decide) ?_
  refine wt_o_aload_n hE ww_exchange_d2 rfl ?_
  refine wt_o_iload_n hE ww_exchange_d3 rfl ?_
  refine wt_o_callX hE hR (dd := 7) [.int x1] wt_lm_lw_97 (wt_g6 124 rfl rfl) wt_ya_ap_exchange (wp_ap_exchange_ok htr hD h) (by decide) (hD 0 (by decide)) wt_L0 rfl rfl rfl (Nat.le_of_ble_eq_true rfl) (by decide) ww_exchange_d4 (fun he => ?_) (fun he => ?_)
  · rcases hx with hx | hx
    · exact absurd hx he
    · rw [hx]
      refine ⟨12, ⟨[], ⟨0, 9, 12, 37⟩, [], "java/util/NoSuchElementException", rfl, (fun z hz => by cases hz), rfl, by decide, (wt_g4 195 rfl rfl), (wt_n4 209 rfl rfl), rfl⟩, fun q9 => ?_⟩
      refine wt_o_astore_n hE [some (.ref (wt_ad (wt_xw X) 0)), some (.int x1), some (.ref o), some (.ref q9)] ww_exchange_d12 (by decide) rfl ?_
      refine wt_o_iconst hE (1 : Int32) ww_exchange_d13 (by decide) ?_
      exact wt_o_ret hE hR (by decide) ww_exchange_d14
  refine wt_o_put hE ww_exchange_d7 ww_exchange_d8 ?_
  refine wt_o_goto hE 15 ww_exchange_d9 rfl ?_
  refine wt_o_iconst hE (0 : Int32) ww_exchange_d15 (by decide) ?_
  exact wt_o_ret hE hR (by decide) ww_exchange_d16
abbrev wt_y_lw_fitting : MethodName := ⟨"WornTypeLaw", "fitting", "(LWornType;IIII[J)I"⟩
abbrev wt_hh_fitting : List (Nat × Nat × Nat × Nat) := [(0, 14, 17, 37), (0, 14, 21, 13)]
set_option maxRecDepth 100000 in
theorem wt_cm_fitting : Cond.codeWith wt_y_lw_fitting method_21_code 7 (some .int) wt_hh_fitting ∈ wt_GT := (wt_g5 220 rfl rfl)
def wb602ww_method_21_code_r0 : List (List Nat) := [25, 5, 3, 42, 27, 28, 29, 21, 4, 182, 0, 72, 133, 80, 167, 0, 11, 58, 6, 4, 172, 58, 6, 5, 172, 3, 172] :: []
set_option maxRecDepth 100000 in
theorem wb602ww_method_21_code_c0 : wt_cs method_21_code 0 wb602ww_method_21_code_r0 := wt_cs_of (by decide +kernel)
theorem ww_fitting_d0 : decode method_21_code 0 = .ok (.aload 5, 2) := wt_op25 wb602ww_method_21_code_c0 0 rfl rfl
theorem ww_fitting_d2 : decode method_21_code 2 = .ok (.iconst 0, 1) := wt_op3 wb602ww_method_21_code_c0 2 rfl rfl
theorem ww_fitting_d3 : decode method_21_code 3 = .ok (.aload_n 0, 1) := wt_op42 wb602ww_method_21_code_c0 3 rfl rfl
theorem ww_fitting_d4 : decode method_21_code 4 = .ok (.iload_n 1, 1) := wt_op27 wb602ww_method_21_code_c0 4 rfl rfl
theorem ww_fitting_d5 : decode method_21_code 5 = .ok (.iload_n 2, 1) := wt_op28 wb602ww_method_21_code_c0 5 rfl rfl
theorem ww_fitting_d6 : decode method_21_code 6 = .ok (.iload_n 3, 1) := wt_op29 wb602ww_method_21_code_c0 6 rfl rfl
theorem ww_fitting_d7 : decode method_21_code 7 = .ok (.iload 4, 2) := wt_op21 wb602ww_method_21_code_c0 7 rfl rfl
theorem ww_fitting_d9 : decode method_21_code 9 = .ok (.invokevirtual 72, 3) := wt_op182 wb602ww_method_21_code_c0 9 rfl rfl rfl
theorem ww_fitting_d12 : decode method_21_code 12 = .ok (.i2l, 1) := wt_op133 wb602ww_method_21_code_c0 12 rfl rfl
theorem ww_fitting_d13 : decode method_21_code 13 = .ok (.lastore, 1) := wt_op80 wb602ww_method_21_code_c0 13 rfl rfl
theorem ww_fitting_d14 : decode method_21_code 14 = .ok (.goto 11, 3) := wt_op167 wb602ww_method_21_code_c0 14 rfl rfl rfl
theorem ww_fitting_d17 : decode method_21_code 17 = .ok (.astore 6, 2) := wt_op58 wb602ww_method_21_code_c0 17 rfl rfl
theorem ww_fitting_d19 : decode method_21_code 19 = .ok (.iconst 1, 1) := wt_op4 wb602ww_method_21_code_c0 19 rfl rfl
theorem ww_fitting_d20 : decode method_21_code 20 = .ok (.ireturn, 1) := wt_op172 wb602ww_method_21_code_c0 20 rfl rfl
theorem ww_fitting_d21 : decode method_21_code 21 = .ok (.astore 6, 2) := wt_op58 wb602ww_method_21_code_c0 21 rfl rfl
theorem ww_fitting_d23 : decode method_21_code 23 = .ok (.iconst 2, 1) := wt_op5 wb602ww_method_21_code_c0 23 rfl rfl
theorem ww_fitting_d24 : decode method_21_code 24 = .ok (.ireturn, 1) := wt_op172 wb602ww_method_21_code_c0 24 rfl rfl
theorem ww_fitting_d25 : decode method_21_code 25 = .ok (.iconst 0, 1) := wt_op3 wb602ww_method_21_code_c0 25 rfl rfl
theorem ww_fitting_d26 : decode method_21_code 26 = .ok (.ireturn, 1) := wt_op172 wb602ww_method_21_code_c0 26 rfl rfl
set_option maxRecDepth 100000 in
set_option maxHeartbeats 4000000 in
theorem ww_fitting_ok {l : Launch} (htr : l.stackTraces = false) {w : wt_E} {o : Nat} (hod : ∀ i, wt_dom w i → wt_ad w i ≠ o) (hD : ∀ i, i < 108 → wt_dom w i) {n : Nat} {x1 : Int32} {x2 : Int32} {x3 : Int32} {x4 : Int32} {σ : wt_St} {q : Nat × Int32 × wt_St} (h : wp_ap_fitting n x1 x2 x3 x4 σ = some q) (hx : q.1 = 0 ∨ q.1 = 2 ∨ q.1 = 1) : wt_CtrW l w o wt_y_lw_fitting method_21_code 7 wt_hh_fitting 22 8 [.ref (wt_ad w 0), .int x1, .int x2, .int x3, .int x4, .ref o] σ q.2.2 := by
  refine wt_ctrW htr hod (by decide +kernel) wt_cm_fitting rfl (Nat.le_of_ble_eq_true rfl) [some (.ref (wt_ad w 0)), some (.int x1), some (.int x2), some (.int x3), some (.int x4), some (.ref o), none] rfl ?_
  intro X hXl hXw hE hR
  subst hXl
  subst hXw
  have hE : wt_OkO X o method_21_code 7 "WornTypeLaw" 22 8 := hE
  refine wt_o_aload hE ww_fitting_d0 rfl ?_
  refine wt_o_iconst hE (0 : Int32) ww_fitting_d2 (by decide) ?_
  refine wt_o_aload_n hE ww_fitting_d3 rfl ?_
  refine wt_o_iload_n hE ww_fitting_d4 rfl ?_
  refine wt_o_iload_n hE ww_fitting_d5 rfl ?_
  refine wt_o_iload_n hE ww_fitting_d6 rfl ?_
  refine wt_o_iload hE ww_fitting_d7 rfl ?_
  refine wt_o_callX hE hR (dd := 21) [.int x1, .int x2, .int x3, .int x4] wt_lm_lw_72 (wt_g5 221 rfl rfl) wt_ya_ap_fitting (wp_ap_fitting_ok htr hD h) (by decide) (hD 0 (by decide)) wt_L0 rfl rfl rfl (Nat.le_of_ble_eq_true rfl) (by decide) ww_fitting_d9 (fun he => ?_) (fun he => ?_)
  · rcases hx with hx | hx | hx
    · exact absurd hx he
    · rw [hx]
      refine ⟨17, ⟨[], ⟨0, 14, 17, 37⟩, [⟨0, 14, 21, 13⟩], "java/util/NoSuchElementException", rfl, (fun z hz => by cases hz), rfl, by decide, (wt_g4 195 rfl rfl), (wt_n4 209 rfl rfl), rfl⟩, fun q9 => ?_⟩
      refine wt_o_astore hE [some (.ref (wt_ad (wt_xw X) 0)), some (.int x1), some (.int x2), some (.int x3), some (.int x4), some (.ref o), some (.ref q9)] ww_fitting_d17 (by decide) rfl ?_
      refine wt_o_iconst hE (1 : Int32) ww_fitting_d19 (by decide) ?_
      exact wt_o_ret hE hR (by decide) ww_fitting_d20
    · rw [hx]
      refine ⟨21, ⟨[⟨0, 14, 17, 37⟩], ⟨0, 14, 21, 13⟩, [], "java/lang/IllegalArgumentException", rfl, (fun z hz => Or.inr (by cases List.mem_singleton.mp hz; exact ⟨by decide, "java/util/NoSuchElementException", (wt_g4 195 rfl rfl), hR.2.2.2.2.1⟩)), rfl, by decide, (wt_g3 56 rfl rfl), (wt_n3 66 rfl rfl), rfl⟩, fun q9 => ?_⟩
      refine wt_o_astore hE [some (.ref (wt_ad (wt_xw X) 0)), some (.int x1), some (.int x2), some (.int x3), some (.int x4), some (.ref o), some (.ref q9)] ww_fitting_d21 (by decide) rfl ?_
      refine wt_o_iconst hE (2 : Int32) ww_fitting_d23 (by decide) ?_
      exact wt_o_ret hE hR (by decide) ww_fitting_d24
  refine wt_o_put hE ww_fitting_d12 ww_fitting_d13 ?_
  refine wt_o_goto hE 25 ww_fitting_d14 rfl ?_
  refine wt_o_iconst hE (0 : Int32) ww_fitting_d25 (by decide) ?_
  exact wt_o_ret hE hR (by decide) ww_fitting_d26
abbrev wt_y_lw_greedy : MethodName := ⟨"WornTypeLaw", "greedy", "(LWornType;I[J)I"⟩
abbrev wt_hh_greedy : List (Nat × Nat × Nat × Nat) := [(0, 9, 12, 13)]
set_option maxRecDepth 100000 in
theorem wt_cm_greedy : Cond.codeWith wt_y_lw_greedy method_25_code 4 (some .int) wt_hh_greedy ∈ wt_GT := (wt_g6 68 rfl rfl)
def wb602ww_method_25_code_r0 : List (List Nat) := [44, 3, 42, 27, 182, 0, 85, 133, 80, 167, 0, 6, 78, 4, 172, 3, 172] :: []
set_option maxRecDepth 100000 in
theorem wb602ww_method_25_code_c0 : wt_cs method_25_code 0 wb602ww_method_25_code_r0 := wt_cs_of (by decide +kernel)
theorem ww_greedy_d0 : decode method_25_code 0 = .ok (.aload_n 2, 1) := wt_op44 wb602ww_method_25_code_c0 0 rfl rfl
theorem ww_greedy_d1 : decode method_25_code 1 = .ok (.iconst 0, 1) := wt_op3 wb602ww_method_25_code_c0 1 rfl rfl
theorem ww_greedy_d2 : decode method_25_code 2 = .ok (.aload_n 0, 1) := wt_op42 wb602ww_method_25_code_c0 2 rfl rfl
theorem ww_greedy_d3 : decode method_25_code 3 = .ok (.iload_n 1, 1) := wt_op27 wb602ww_method_25_code_c0 3 rfl rfl
theorem ww_greedy_d4 : decode method_25_code 4 = .ok (.invokevirtual 85, 3) := wt_op182 wb602ww_method_25_code_c0 4 rfl rfl rfl
theorem ww_greedy_d7 : decode method_25_code 7 = .ok (.i2l, 1) := wt_op133 wb602ww_method_25_code_c0 7 rfl rfl
theorem ww_greedy_d8 : decode method_25_code 8 = .ok (.lastore, 1) := wt_op80 wb602ww_method_25_code_c0 8 rfl rfl
theorem ww_greedy_d9 : decode method_25_code 9 = .ok (.goto 6, 3) := wt_op167 wb602ww_method_25_code_c0 9 rfl rfl rfl
theorem ww_greedy_d12 : decode method_25_code 12 = .ok (.astore_n 3, 1) := wt_op78 wb602ww_method_25_code_c0 12 rfl rfl
theorem ww_greedy_d13 : decode method_25_code 13 = .ok (.iconst 1, 1) := wt_op4 wb602ww_method_25_code_c0 13 rfl rfl
theorem ww_greedy_d14 : decode method_25_code 14 = .ok (.ireturn, 1) := wt_op172 wb602ww_method_25_code_c0 14 rfl rfl
theorem ww_greedy_d15 : decode method_25_code 15 = .ok (.iconst 0, 1) := wt_op3 wb602ww_method_25_code_c0 15 rfl rfl
theorem ww_greedy_d16 : decode method_25_code 16 = .ok (.ireturn, 1) := wt_op172 wb602ww_method_25_code_c0 16 rfl rfl
set_option maxRecDepth 100000 in
set_option maxHeartbeats 4000000 in
theorem ww_greedy_ok {l : Launch} (htr : l.stackTraces = false) {w : wt_E} {o : Nat} (hod : ∀ i, wt_dom w i → wt_ad w i ≠ o) (hD : ∀ i, i < 108 → wt_dom w i) {n : Nat} {x1 : Int32} {σ : wt_St} {q : Nat × Int32 × wt_St} (h : wp_ap_greedy n x1 σ = some q) (hx : q.1 = 0 ∨ q.1 = 1) : wt_CtrW l w o wt_y_lw_greedy method_25_code 4 wt_hh_greedy 8 8 [.ref (wt_ad w 0), .int x1, .ref o] σ q.2.2 := by
  refine wt_ctrW htr hod (by decide +kernel) wt_cm_greedy rfl (Nat.le_of_ble_eq_true rfl) [some (.ref (wt_ad w 0)), some (.int x1), some (.ref o), none] rfl ?_
  intro X hXl hXw hE hR
  subst hXl
  subst hXw
  have hE : wt_OkO X o method_25_code 4 "WornTypeLaw" 8 8 := hE
  refine wt_o_aload_n hE ww_greedy_d0 rfl ?_
  refine wt_o_iconst hE (0 : Int32) ww_greedy_d1 (by decide) ?_
  refine wt_o_aload_n hE ww_greedy_d2 rfl ?_
  refine wt_o_iload_n hE ww_greedy_d3 rfl ?_
  refine wt_o_callX hE hR (dd := 7) [.int x1] wt_lm_lw_85 (wt_g6 69 rfl rfl) wt_ya_ap_greedy (wp_ap_greedy_ok htr hD h) (by decide) (hD 0 (by decide)) wt_L0 rfl rfl rfl (Nat.le_of_ble_eq_true rfl) (by decide) ww_greedy_d4 (fun he => ?_) (fun he => ?_)
  · rcases hx with hx | hx
    · exact absurd hx he
    · rw [hx]
      refine ⟨12, ⟨[], ⟨0, 9, 12, 13⟩, [], "java/lang/IllegalArgumentException", rfl, (fun z hz => by cases hz), rfl, by decide, (wt_g3 56 rfl rfl), (wt_n3 66 rfl rfl), rfl⟩, fun q9 => ?_⟩
      refine wt_o_astore_n hE [some (.ref (wt_ad (wt_xw X) 0)), some (.int x1), some (.ref o), some (.ref q9)] ww_greedy_d12 (by decide) rfl ?_
      refine wt_o_iconst hE (1 : Int32) ww_greedy_d13 (by decide) ?_
      exact wt_o_ret hE hR (by decide) ww_greedy_d14
  refine wt_o_put hE ww_greedy_d7 ww_greedy_d8 ?_
  refine wt_o_goto hE 15 ww_greedy_d9 rfl ?_
  refine wt_o_iconst hE (0 : Int32) ww_greedy_d15 (by decide) ?_
  exact wt_o_ret hE hR (by decide) ww_greedy_d16
abbrev wt_y_lw_habit : MethodName := ⟨"WornTypeLaw", "habit", "(LWornType;I[J)I"⟩
abbrev wt_hh_habit : List (Nat × Nat × Nat × Nat) := [(0, 9, 12, 13)]
set_option maxRecDepth 100000 in
theorem wt_cm_habit : Cond.codeWith wt_y_lw_habit method_12_code 4 (some .int) wt_hh_habit ∈ wt_GT := (wt_g5 35 rfl rfl)
def wb602ww_method_12_code_r0 : List (List Nat) := [44, 3, 42, 27, 182, 0, 45, 133, 80, 167, 0, 6, 78, 4, 172, 3, 172] :: []
set_option maxRecDepth 100000 in
theorem wb602ww_method_12_code_c0 : wt_cs method_12_code 0 wb602ww_method_12_code_r0 := wt_cs_of (by decide +kernel)
theorem ww_habit_d0 : decode method_12_code 0 = .ok (.aload_n 2, 1) := wt_op44 wb602ww_method_12_code_c0 0 rfl rfl
theorem ww_habit_d1 : decode method_12_code 1 = .ok (.iconst 0, 1) := wt_op3 wb602ww_method_12_code_c0 1 rfl rfl
theorem ww_habit_d2 : decode method_12_code 2 = .ok (.aload_n 0, 1) := wt_op42 wb602ww_method_12_code_c0 2 rfl rfl
theorem ww_habit_d3 : decode method_12_code 3 = .ok (.iload_n 1, 1) := wt_op27 wb602ww_method_12_code_c0 3 rfl rfl
theorem ww_habit_d4 : decode method_12_code 4 = .ok (.invokevirtual 45, 3) := wt_op182 wb602ww_method_12_code_c0 4 rfl rfl rfl
theorem ww_habit_d7 : decode method_12_code 7 = .ok (.i2l, 1) := wt_op133 wb602ww_method_12_code_c0 7 rfl rfl
theorem ww_habit_d8 : decode method_12_code 8 = .ok (.lastore, 1) := wt_op80 wb602ww_method_12_code_c0 8 rfl rfl
theorem ww_habit_d9 : decode method_12_code 9 = .ok (.goto 6, 3) := wt_op167 wb602ww_method_12_code_c0 9 rfl rfl rfl
theorem ww_habit_d12 : decode method_12_code 12 = .ok (.astore_n 3, 1) := wt_op78 wb602ww_method_12_code_c0 12 rfl rfl
theorem ww_habit_d13 : decode method_12_code 13 = .ok (.iconst 1, 1) := wt_op4 wb602ww_method_12_code_c0 13 rfl rfl
theorem ww_habit_d14 : decode method_12_code 14 = .ok (.ireturn, 1) := wt_op172 wb602ww_method_12_code_c0 14 rfl rfl
theorem ww_habit_d15 : decode method_12_code 15 = .ok (.iconst 0, 1) := wt_op3 wb602ww_method_12_code_c0 15 rfl rfl
theorem ww_habit_d16 : decode method_12_code 16 = .ok (.ireturn, 1) := wt_op172 wb602ww_method_12_code_c0 16 rfl rfl
set_option maxRecDepth 100000 in
set_option maxHeartbeats 4000000 in
theorem ww_habit_ok {l : Launch} (htr : l.stackTraces = false) {w : wt_E} {o : Nat} (hod : ∀ i, wt_dom w i → wt_ad w i ≠ o) (hD : ∀ i, i < 108 → wt_dom w i) {n : Nat} {x1 : Int32} {σ : wt_St} {q : Nat × Int32 × wt_St} (h : wp_ap_habit n x1 σ = some q) (hx : q.1 = 0 ∨ q.1 = 1) : wt_CtrW l w o wt_y_lw_habit method_12_code 4 wt_hh_habit 8 8 [.ref (wt_ad w 0), .int x1, .ref o] σ q.2.2 := by
  refine wt_ctrW htr hod (by decide +kernel) wt_cm_habit rfl (Nat.le_of_ble_eq_true rfl) [some (.ref (wt_ad w 0)), some (.int x1), some (.ref o), none] rfl ?_
  intro X hXl hXw hE hR
  subst hXl
  subst hXw
  have hE : wt_OkO X o method_12_code 4 "WornTypeLaw" 8 8 := hE
  refine wt_o_aload_n hE ww_habit_d0 rfl ?_
  refine wt_o_iconst hE (0 : Int32) ww_habit_d1 (by decide) ?_
  refine wt_o_aload_n hE ww_habit_d2 rfl ?_
  refine wt_o_iload_n hE ww_habit_d3 rfl ?_
  refine wt_o_callX hE hR (dd := 7) [.int x1] wt_lm_lw_45 (wt_g5 36 rfl rfl) wt_ya_ap_habit (wp_ap_habit_ok htr hD h) (by decide) (hD 0 (by decide)) wt_L0 rfl rfl rfl (Nat.le_of_ble_eq_true rfl) (by decide) ww_habit_d4 (fun he => ?_) (fun he => ?_)
  · rcases hx with hx | hx
    · exact absurd hx he
    · rw [hx]
      refine ⟨12, ⟨[], ⟨0, 9, 12, 13⟩, [], "java/lang/IllegalArgumentException", rfl, (fun z hz => by cases hz), rfl, by decide, (wt_g3 56 rfl rfl), (wt_n3 66 rfl rfl), rfl⟩, fun q9 => ?_⟩
      refine wt_o_astore_n hE [some (.ref (wt_ad (wt_xw X) 0)), some (.int x1), some (.ref o), some (.ref q9)] ww_habit_d12 (by decide) rfl ?_
      refine wt_o_iconst hE (1 : Int32) ww_habit_d13 (by decide) ?_
      exact wt_o_ret hE hR (by decide) ww_habit_d14
  refine wt_o_put hE ww_habit_d7 ww_habit_d8 ?_
  refine wt_o_goto hE 15 ww_habit_d9 rfl ?_
  refine wt_o_iconst hE (0 : Int32) ww_habit_d15 (by decide) ?_
  exact wt_o_ret hE hR (by decide) ww_habit_d16
abbrev wt_y_lw_kase : MethodName := ⟨"WornTypeLaw", "kase", "(LWornType;I[J)I"⟩
abbrev wt_hh_kase : List (Nat × Nat × Nat × Nat) := [(0, 9, 12, 13)]
set_option maxRecDepth 100000 in
theorem wt_cm_kase : Cond.codeWith wt_y_lw_kase method_3_code 4 (some .int) wt_hh_kase ∈ wt_GT := (wt_g3 55 rfl rfl)
def wb602ww_method_3_code_r0 : List (List Nat) := [44, 3, 42, 27, 182, 0, 7, 133, 80, 167, 0, 6, 78, 4, 172, 3, 172] :: []
set_option maxRecDepth 100000 in
theorem wb602ww_method_3_code_c0 : wt_cs method_3_code 0 wb602ww_method_3_code_r0 := wt_cs_of (by decide +kernel)
theorem ww_kase_d0 : decode method_3_code 0 = .ok (.aload_n 2, 1) := wt_op44 wb602ww_method_3_code_c0 0 rfl rfl
theorem ww_kase_d1 : decode method_3_code 1 = .ok (.iconst 0, 1) := wt_op3 wb602ww_method_3_code_c0 1 rfl rfl
theorem ww_kase_d2 : decode method_3_code 2 = .ok (.aload_n 0, 1) := wt_op42 wb602ww_method_3_code_c0 2 rfl rfl
theorem ww_kase_d3 : decode method_3_code 3 = .ok (.iload_n 1, 1) := wt_op27 wb602ww_method_3_code_c0 3 rfl rfl
theorem ww_kase_d4 : decode method_3_code 4 = .ok (.invokevirtual 7, 3) := wt_op182 wb602ww_method_3_code_c0 4 rfl rfl rfl
theorem ww_kase_d7 : decode method_3_code 7 = .ok (.i2l, 1) := wt_op133 wb602ww_method_3_code_c0 7 rfl rfl
theorem ww_kase_d8 : decode method_3_code 8 = .ok (.lastore, 1) := wt_op80 wb602ww_method_3_code_c0 8 rfl rfl
theorem ww_kase_d9 : decode method_3_code 9 = .ok (.goto 6, 3) := wt_op167 wb602ww_method_3_code_c0 9 rfl rfl rfl
theorem ww_kase_d12 : decode method_3_code 12 = .ok (.astore_n 3, 1) := wt_op78 wb602ww_method_3_code_c0 12 rfl rfl
theorem ww_kase_d13 : decode method_3_code 13 = .ok (.iconst 1, 1) := wt_op4 wb602ww_method_3_code_c0 13 rfl rfl
theorem ww_kase_d14 : decode method_3_code 14 = .ok (.ireturn, 1) := wt_op172 wb602ww_method_3_code_c0 14 rfl rfl
theorem ww_kase_d15 : decode method_3_code 15 = .ok (.iconst 0, 1) := wt_op3 wb602ww_method_3_code_c0 15 rfl rfl
theorem ww_kase_d16 : decode method_3_code 16 = .ok (.ireturn, 1) := wt_op172 wb602ww_method_3_code_c0 16 rfl rfl
set_option maxRecDepth 100000 in
set_option maxHeartbeats 4000000 in
theorem ww_kase_ok {l : Launch} (htr : l.stackTraces = false) {w : wt_E} {o : Nat} (hod : ∀ i, wt_dom w i → wt_ad w i ≠ o) (hD : ∀ i, i < 108 → wt_dom w i) {n : Nat} {x1 : Int32} {σ : wt_St} {q : Nat × Int32 × wt_St} (h : wp_ap_kase n x1 σ = some q) (hx : q.1 = 0 ∨ q.1 = 1) : wt_CtrW l w o wt_y_lw_kase method_3_code 4 wt_hh_kase 9 8 [.ref (wt_ad w 0), .int x1, .ref o] σ q.2.2 := by
  refine wt_ctrW htr hod (by decide +kernel) wt_cm_kase rfl (Nat.le_of_ble_eq_true rfl) [some (.ref (wt_ad w 0)), some (.int x1), some (.ref o), none] rfl ?_
  intro X hXl hXw hE hR
  subst hXl
  subst hXw
  have hE : wt_OkO X o method_3_code 4 "WornTypeLaw" 9 8 := hE
  refine wt_o_aload_n hE ww_kase_d0 rfl ?_
  refine wt_o_iconst hE (0 : Int32) ww_kase_d1 (by decide) ?_
  refine wt_o_aload_n hE ww_kase_d2 rfl ?_
  refine wt_o_iload_n hE ww_kase_d3 rfl ?_
  refine wt_o_callX hE hR (dd := 8) [.int x1] wt_lm_lw_7 (wt_g3 57 rfl rfl) wt_ya_ap_kase (wp_ap_kase_ok htr hD h) (by decide) (hD 0 (by decide)) wt_L0 rfl rfl rfl (Nat.le_of_ble_eq_true rfl) (by decide) ww_kase_d4 (fun he => ?_) (fun he => ?_)
  · rcases hx with hx | hx
    · exact absurd hx he
    · rw [hx]
      refine ⟨12, ⟨[], ⟨0, 9, 12, 13⟩, [], "java/lang/IllegalArgumentException", rfl, (fun z hz => by cases hz), rfl, by decide, (wt_g3 56 rfl rfl), (wt_n3 66 rfl rfl), rfl⟩, fun q9 => ?_⟩
      refine wt_o_astore_n hE [some (.ref (wt_ad (wt_xw X) 0)), some (.int x1), some (.ref o), some (.ref q9)] ww_kase_d12 (by decide) rfl ?_
      refine wt_o_iconst hE (1 : Int32) ww_kase_d13 (by decide) ?_
      exact wt_o_ret hE hR (by decide) ww_kase_d14
  refine wt_o_put hE ww_kase_d7 ww_kase_d8 ?_
  refine wt_o_goto hE 15 ww_kase_d9 rfl ?_
  refine wt_o_iconst hE (0 : Int32) ww_kase_d15 (by decide) ?_
  exact wt_o_ret hE hR (by decide) ww_kase_d16
abbrev wt_y_lw_lacks : MethodName := ⟨"WornTypeLaw", "lacks", "(LWornType;II[J)I"⟩
abbrev wt_hh_lacks : List (Nat × Nat × Nat × Nat) := [(0, 10, 13, 37), (0, 10, 17, 13)]
set_option maxRecDepth 100000 in
theorem wt_cm_lacks : Cond.codeWith wt_y_lw_lacks method_14_code 5 (some .int) wt_hh_lacks ∈ wt_GT := (wt_g5 54 rfl rfl)
def wb602ww_method_14_code_r0 : List (List Nat) := [45, 3, 42, 27, 28, 182, 0, 51, 133, 80, 167, 0, 11, 58, 4, 4, 172, 58, 4, 5, 172, 3, 172] :: []
set_option maxRecDepth 100000 in
theorem wb602ww_method_14_code_c0 : wt_cs method_14_code 0 wb602ww_method_14_code_r0 := wt_cs_of (by decide +kernel)
theorem ww_lacks_d0 : decode method_14_code 0 = .ok (.aload_n 3, 1) := wt_op45 wb602ww_method_14_code_c0 0 rfl rfl
theorem ww_lacks_d1 : decode method_14_code 1 = .ok (.iconst 0, 1) := wt_op3 wb602ww_method_14_code_c0 1 rfl rfl
theorem ww_lacks_d2 : decode method_14_code 2 = .ok (.aload_n 0, 1) := wt_op42 wb602ww_method_14_code_c0 2 rfl rfl
theorem ww_lacks_d3 : decode method_14_code 3 = .ok (.iload_n 1, 1) := wt_op27 wb602ww_method_14_code_c0 3 rfl rfl
theorem ww_lacks_d4 : decode method_14_code 4 = .ok (.iload_n 2, 1) := wt_op28 wb602ww_method_14_code_c0 4 rfl rfl
theorem ww_lacks_d5 : decode method_14_code 5 = .ok (.invokevirtual 51, 3) := wt_op182 wb602ww_method_14_code_c0 5 rfl rfl rfl
theorem ww_lacks_d8 : decode method_14_code 8 = .ok (.i2l, 1) := wt_op133 wb602ww_method_14_code_c0 8 rfl rfl
theorem ww_lacks_d9 : decode method_14_code 9 = .ok (.lastore, 1) := wt_op80 wb602ww_method_14_code_c0 9 rfl rfl
theorem ww_lacks_d10 : decode method_14_code 10 = .ok (.goto 11, 3) := wt_op167 wb602ww_method_14_code_c0 10 rfl rfl rfl
theorem ww_lacks_d13 : decode method_14_code 13 = .ok (.astore 4, 2) := wt_op58 wb602ww_method_14_code_c0 13 rfl rfl
theorem ww_lacks_d15 : decode method_14_code 15 = .ok (.iconst 1, 1) := wt_op4 wb602ww_method_14_code_c0 15 rfl rfl
theorem ww_lacks_d16 : decode method_14_code 16 = .ok (.ireturn, 1) := wt_op172 wb602ww_method_14_code_c0 16 rfl rfl
theorem ww_lacks_d17 : decode method_14_code 17 = .ok (.astore 4, 2) := wt_op58 wb602ww_method_14_code_c0 17 rfl rfl
theorem ww_lacks_d19 : decode method_14_code 19 = .ok (.iconst 2, 1) := wt_op5 wb602ww_method_14_code_c0 19 rfl rfl
theorem ww_lacks_d20 : decode method_14_code 20 = .ok (.ireturn, 1) := wt_op172 wb602ww_method_14_code_c0 20 rfl rfl
theorem ww_lacks_d21 : decode method_14_code 21 = .ok (.iconst 0, 1) := wt_op3 wb602ww_method_14_code_c0 21 rfl rfl
theorem ww_lacks_d22 : decode method_14_code 22 = .ok (.ireturn, 1) := wt_op172 wb602ww_method_14_code_c0 22 rfl rfl
set_option maxRecDepth 100000 in
set_option maxHeartbeats 4000000 in
theorem ww_lacks_ok {l : Launch} (htr : l.stackTraces = false) {w : wt_E} {o : Nat} (hod : ∀ i, wt_dom w i → wt_ad w i ≠ o) (hD : ∀ i, i < 108 → wt_dom w i) {n : Nat} {x1 : Int32} {x2 : Int32} {σ : wt_St} {q : Nat × Int32 × wt_St} (h : wp_ap_lacks n x1 x2 σ = some q) (hx : q.1 = 0 ∨ q.1 = 2 ∨ q.1 = 1) : wt_CtrW l w o wt_y_lw_lacks method_14_code 5 wt_hh_lacks 9 8 [.ref (wt_ad w 0), .int x1, .int x2, .ref o] σ q.2.2 := by
  refine wt_ctrW htr hod (by decide +kernel) wt_cm_lacks rfl (Nat.le_of_ble_eq_true rfl) [some (.ref (wt_ad w 0)), some (.int x1), some (.int x2), some (.ref o), none] rfl ?_
  intro X hXl hXw hE hR
  subst hXl
  subst hXw
  have hE : wt_OkO X o method_14_code 5 "WornTypeLaw" 9 8 := hE
  refine wt_o_aload_n hE ww_lacks_d0 rfl ?_
  refine wt_o_iconst hE (0 : Int32) ww_lacks_d1 (by decide) ?_
  refine wt_o_aload_n hE ww_lacks_d2 rfl ?_
  refine wt_o_iload_n hE ww_lacks_d3 rfl ?_
  refine wt_o_iload_n hE ww_lacks_d4 rfl ?_
  refine wt_o_callX hE hR (dd := 8) [.int x1, .int x2] wt_lm_lw_51 (wt_g5 55 rfl rfl) wt_ya_ap_lacks (wp_ap_lacks_ok htr hD h) (by decide) (hD 0 (by decide)) wt_L0 rfl rfl rfl (Nat.le_of_ble_eq_true rfl) (by decide) ww_lacks_d5 (fun he => ?_) (fun he => ?_)
  · rcases hx with hx | hx | hx
    · exact absurd hx he
    · rw [hx]
      refine ⟨13, ⟨[], ⟨0, 10, 13, 37⟩, [⟨0, 10, 17, 13⟩], "java/util/NoSuchElementException", rfl, (fun z hz => by cases hz), rfl, by decide, (wt_g4 195 rfl rfl), (wt_n4 209 rfl rfl), rfl⟩, fun q9 => ?_⟩
      refine wt_o_astore hE [some (.ref (wt_ad (wt_xw X) 0)), some (.int x1), some (.int x2), some (.ref o), some (.ref q9)] ww_lacks_d13 (by decide) rfl ?_
      refine wt_o_iconst hE (1 : Int32) ww_lacks_d15 (by decide) ?_
      exact wt_o_ret hE hR (by decide) ww_lacks_d16
    · rw [hx]
      refine ⟨17, ⟨[⟨0, 10, 13, 37⟩], ⟨0, 10, 17, 13⟩, [], "java/lang/IllegalArgumentException", rfl, (fun z hz => Or.inr (by cases List.mem_singleton.mp hz; exact ⟨by decide, "java/util/NoSuchElementException", (wt_g4 195 rfl rfl), hR.2.2.2.2.1⟩)), rfl, by decide, (wt_g3 56 rfl rfl), (wt_n3 66 rfl rfl), rfl⟩, fun q9 => ?_⟩
      refine wt_o_astore hE [some (.ref (wt_ad (wt_xw X) 0)), some (.int x1), some (.int x2), some (.ref o), some (.ref q9)] ww_lacks_d17 (by decide) rfl ?_
      refine wt_o_iconst hE (2 : Int32) ww_lacks_d19 (by decide) ?_
      exact wt_o_ret hE hR (by decide) ww_lacks_d20
  refine wt_o_put hE ww_lacks_d8 ww_lacks_d9 ?_
  refine wt_o_goto hE 21 ww_lacks_d10 rfl ?_
  refine wt_o_iconst hE (0 : Int32) ww_lacks_d21 (by decide) ?_
  exact wt_o_ret hE hR (by decide) ww_lacks_d22
abbrev wt_y_lw_least : MethodName := ⟨"WornTypeLaw", "least", "(LWornType;III[J)I"⟩
abbrev wt_hh_least : List (Nat × Nat × Nat × Nat) := [(0, 12, 15, 37), (0, 12, 19, 13)]
set_option maxRecDepth 100000 in
theorem wt_cm_least : Cond.codeWith wt_y_lw_least method_20_code 6 (some .int) wt_hh_least ∈ wt_GT := (wt_g5 172 rfl rfl)
def wb602ww_method_20_code_r0 : List (List Nat) := [25, 4, 3, 42, 27, 28, 29, 182, 0, 69, 133, 80, 167, 0, 11, 58, 5, 4, 172, 58, 5, 5, 172, 3, 172] :: []
set_option maxRecDepth 100000 in
theorem wb602ww_method_20_code_c0 : wt_cs method_20_code 0 wb602ww_method_20_code_r0 := wt_cs_of (by decide +kernel)
theorem ww_least_d0 : decode method_20_code 0 = .ok (.aload 4, 2) := wt_op25 wb602ww_method_20_code_c0 0 rfl rfl
theorem ww_least_d2 : decode method_20_code 2 = .ok (.iconst 0, 1) := wt_op3 wb602ww_method_20_code_c0 2 rfl rfl
theorem ww_least_d3 : decode method_20_code 3 = .ok (.aload_n 0, 1) := wt_op42 wb602ww_method_20_code_c0 3 rfl rfl
theorem ww_least_d4 : decode method_20_code 4 = .ok (.iload_n 1, 1) := wt_op27 wb602ww_method_20_code_c0 4 rfl rfl
theorem ww_least_d5 : decode method_20_code 5 = .ok (.iload_n 2, 1) := wt_op28 wb602ww_method_20_code_c0 5 rfl rfl
theorem ww_least_d6 : decode method_20_code 6 = .ok (.iload_n 3, 1) := wt_op29 wb602ww_method_20_code_c0 6 rfl rfl
theorem ww_least_d7 : decode method_20_code 7 = .ok (.invokevirtual 69, 3) := wt_op182 wb602ww_method_20_code_c0 7 rfl rfl rfl
theorem ww_least_d10 : decode method_20_code 10 = .ok (.i2l, 1) := wt_op133 wb602ww_method_20_code_c0 10 rfl rfl
theorem ww_least_d11 : decode method_20_code 11 = .ok (.lastore, 1) := wt_op80 wb602ww_method_20_code_c0 11 rfl rfl
theorem ww_least_d12 : decode method_20_code 12 = .ok (.goto 11, 3) := wt_op167 wb602ww_method_20_code_c0 12 rfl rfl rfl
theorem ww_least_d15 : decode method_20_code 15 = .ok (.astore 5, 2) := wt_op58 wb602ww_method_20_code_c0 15 rfl rfl
theorem ww_least_d17 : decode method_20_code 17 = .ok (.iconst 1, 1) := wt_op4 wb602ww_method_20_code_c0 17 rfl rfl
theorem ww_least_d18 : decode method_20_code 18 = .ok (.ireturn, 1) := wt_op172 wb602ww_method_20_code_c0 18 rfl rfl
theorem ww_least_d19 : decode method_20_code 19 = .ok (.astore 5, 2) := wt_op58 wb602ww_method_20_code_c0 19 rfl rfl
theorem ww_least_d21 : decode method_20_code 21 = .ok (.iconst 2, 1) := wt_op5 wb602ww_method_20_code_c0 21 rfl rfl
theorem ww_least_d22 : decode method_20_code 22 = .ok (.ireturn, 1) := wt_op172 wb602ww_method_20_code_c0 22 rfl rfl
theorem ww_least_d23 : decode method_20_code 23 = .ok (.iconst 0, 1) := wt_op3 wb602ww_method_20_code_c0 23 rfl rfl
theorem ww_least_d24 : decode method_20_code 24 = .ok (.ireturn, 1) := wt_op172 wb602ww_method_20_code_c0 24 rfl rfl
set_option maxRecDepth 100000 in
set_option maxHeartbeats 4000000 in
theorem ww_least_ok {l : Launch} (htr : l.stackTraces = false) {w : wt_E} {o : Nat} (hod : ∀ i, wt_dom w i → wt_ad w i ≠ o) (hD : ∀ i, i < 108 → wt_dom w i) {n : Nat} {x1 : Int32} {x2 : Int32} {x3 : Int32} {σ : wt_St} {q : Nat × Int32 × wt_St} (h : wp_ap_least n x1 x2 x3 σ = some q) (hx : q.1 = 0 ∨ q.1 = 2 ∨ q.1 = 1) : wt_CtrW l w o wt_y_lw_least method_20_code 6 wt_hh_least 8 8 [.ref (wt_ad w 0), .int x1, .int x2, .int x3, .ref o] σ q.2.2 := by
  refine wt_ctrW htr hod (by decide +kernel) wt_cm_least rfl (Nat.le_of_ble_eq_true rfl) [some (.ref (wt_ad w 0)), some (.int x1), some (.int x2), some (.int x3), some (.ref o), none] rfl ?_
  intro X hXl hXw hE hR
  subst hXl
  subst hXw
  have hE : wt_OkO X o method_20_code 6 "WornTypeLaw" 8 8 := hE
  refine wt_o_aload hE ww_least_d0 rfl ?_
  refine wt_o_iconst hE (0 : Int32) ww_least_d2 (by decide) ?_
  refine wt_o_aload_n hE ww_least_d3 rfl ?_
  refine wt_o_iload_n hE ww_least_d4 rfl ?_
  refine wt_o_iload_n hE ww_least_d5 rfl ?_
  refine wt_o_iload_n hE ww_least_d6 rfl ?_
  refine wt_o_callX hE hR (dd := 7) [.int x1, .int x2, .int x3] wt_lm_lw_69 (wt_g5 173 rfl rfl) wt_ya_ap_least (wp_ap_least_ok htr hD h) (by decide) (hD 0 (by decide)) wt_L0 rfl rfl rfl (Nat.le_of_ble_eq_true rfl) (by decide) ww_least_d7 (fun he => ?_) (fun he => ?_)
  · rcases hx with hx | hx | hx
    · exact absurd hx he
    · rw [hx]
      refine ⟨15, ⟨[], ⟨0, 12, 15, 37⟩, [⟨0, 12, 19, 13⟩], "java/util/NoSuchElementException", rfl, (fun z hz => by cases hz), rfl, by decide, (wt_g4 195 rfl rfl), (wt_n4 209 rfl rfl), rfl⟩, fun q9 => ?_⟩
      refine wt_o_astore hE [some (.ref (wt_ad (wt_xw X) 0)), some (.int x1), some (.int x2), some (.int x3), some (.ref o), some (.ref q9)] ww_least_d15 (by decide) rfl ?_
      refine wt_o_iconst hE (1 : Int32) ww_least_d17 (by decide) ?_
      exact wt_o_ret hE hR (by decide) ww_least_d18
    · rw [hx]
      refine ⟨19, ⟨[⟨0, 12, 15, 37⟩], ⟨0, 12, 19, 13⟩, [], "java/lang/IllegalArgumentException", rfl, (fun z hz => Or.inr (by cases List.mem_singleton.mp hz; exact ⟨by decide, "java/util/NoSuchElementException", (wt_g4 195 rfl rfl), hR.2.2.2.2.1⟩)), rfl, by decide, (wt_g3 56 rfl rfl), (wt_n3 66 rfl rfl), rfl⟩, fun q9 => ?_⟩
      refine wt_o_astore hE [some (.ref (wt_ad (wt_xw X) 0)), some (.int x1), some (.int x2), some (.int x3), some (.ref o), some (.ref q9)] ww_least_d19 (by decide) rfl ?_
      refine wt_o_iconst hE (2 : Int32) ww_least_d21 (by decide) ?_
      exact wt_o_ret hE hR (by decide) ww_least_d22
  refine wt_o_put hE ww_least_d10 ww_least_d11 ?_
  refine wt_o_goto hE 23 ww_least_d12 rfl ?_
  refine wt_o_iconst hE (0 : Int32) ww_least_d23 (by decide) ?_
  exact wt_o_ret hE hR (by decide) ww_least_d24
abbrev wt_y_lw_letter : MethodName := ⟨"WornTypeLaw", "letter", "(LWornType;II[J)I"⟩
abbrev wt_hh_letter : List (Nat × Nat × Nat × Nat) := [(0, 10, 13, 13)]
set_option maxRecDepth 100000 in
theorem wt_cm_letter : Cond.codeWith wt_y_lw_letter method_7_code 5 (some .int) wt_hh_letter ∈ wt_GT := (wt_g4 137 rfl rfl)
def wb602ww_method_7_code_r0 : List (List Nat) := [45, 3, 42, 27, 28, 182, 0, 24, 133, 80, 167, 0, 7, 58, 4, 4, 172, 3, 172] :: []
set_option maxRecDepth 100000 in
theorem wb602ww_method_7_code_c0 : wt_cs method_7_code 0 wb602ww_method_7_code_r0 := wt_cs_of (by decide +kernel)
theorem ww_letter_d0 : decode method_7_code 0 = .ok (.aload_n 3, 1) := wt_op45 wb602ww_method_7_code_c0 0 rfl rfl
theorem ww_letter_d1 : decode method_7_code 1 = .ok (.iconst 0, 1) := wt_op3 wb602ww_method_7_code_c0 1 rfl rfl
theorem ww_letter_d2 : decode method_7_code 2 = .ok (.aload_n 0, 1) := wt_op42 wb602ww_method_7_code_c0 2 rfl rfl
theorem ww_letter_d3 : decode method_7_code 3 = .ok (.iload_n 1, 1) := wt_op27 wb602ww_method_7_code_c0 3 rfl rfl
theorem ww_letter_d4 : decode method_7_code 4 = .ok (.iload_n 2, 1) := wt_op28 wb602ww_method_7_code_c0 4 rfl rfl
theorem ww_letter_d5 : decode method_7_code 5 = .ok (.invokevirtual 24, 3) := wt_op182 wb602ww_method_7_code_c0 5 rfl rfl rfl
theorem ww_letter_d8 : decode method_7_code 8 = .ok (.i2l, 1) := wt_op133 wb602ww_method_7_code_c0 8 rfl rfl
theorem ww_letter_d9 : decode method_7_code 9 = .ok (.lastore, 1) := wt_op80 wb602ww_method_7_code_c0 9 rfl rfl
theorem ww_letter_d10 : decode method_7_code 10 = .ok (.goto 7, 3) := wt_op167 wb602ww_method_7_code_c0 10 rfl rfl rfl
theorem ww_letter_d13 : decode method_7_code 13 = .ok (.astore 4, 2) := wt_op58 wb602ww_method_7_code_c0 13 rfl rfl
theorem ww_letter_d15 : decode method_7_code 15 = .ok (.iconst 1, 1) := wt_op4 wb602ww_method_7_code_c0 15 rfl rfl
theorem ww_letter_d16 : decode method_7_code 16 = .ok (.ireturn, 1) := wt_op172 wb602ww_method_7_code_c0 16 rfl rfl
theorem ww_letter_d17 : decode method_7_code 17 = .ok (.iconst 0, 1) := wt_op3 wb602ww_method_7_code_c0 17 rfl rfl
theorem ww_letter_d18 : decode method_7_code 18 = .ok (.ireturn, 1) := wt_op172 wb602ww_method_7_code_c0 18 rfl rfl
set_option maxRecDepth 100000 in
set_option maxHeartbeats 4000000 in
theorem ww_letter_ok {l : Launch} (htr : l.stackTraces = false) {w : wt_E} {o : Nat} (hod : ∀ i, wt_dom w i → wt_ad w i ≠ o) (hD : ∀ i, i < 108 → wt_dom w i) {n : Nat} {x1 : Int32} {x2 : Int32} {σ : wt_St} {q : Nat × Int32 × wt_St} (h : wp_ap_letter n x1 x2 σ = some q) (hx : q.1 = 0 ∨ q.1 = 1) : wt_CtrW l w o wt_y_lw_letter method_7_code 5 wt_hh_letter 8 8 [.ref (wt_ad w 0), .int x1, .int x2, .ref o] σ q.2.2 := by
  refine wt_ctrW htr hod (by decide +kernel) wt_cm_letter rfl (Nat.le_of_ble_eq_true rfl) [some (.ref (wt_ad w 0)), some (.int x1), some (.int x2), some (.ref o), none] rfl ?_
  intro X hXl hXw hE hR
  subst hXl
  subst hXw
  have hE : wt_OkO X o method_7_code 5 "WornTypeLaw" 8 8 := hE
  refine wt_o_aload_n hE ww_letter_d0 rfl ?_
  refine wt_o_iconst hE (0 : Int32) ww_letter_d1 (by decide) ?_
  refine wt_o_aload_n hE ww_letter_d2 rfl ?_
  refine wt_o_iload_n hE ww_letter_d3 rfl ?_
  refine wt_o_iload_n hE ww_letter_d4 rfl ?_
  refine wt_o_callX hE hR (dd := 7) [.int x1, .int x2] wt_lm_lw_24 (wt_g4 138 rfl rfl) wt_ya_ap_letter (wp_ap_letter_ok htr hD h) (by decide) (hD 0 (by decide)) wt_L0 rfl rfl rfl (Nat.le_of_ble_eq_true rfl) (by decide) ww_letter_d5 (fun he => ?_) (fun he => ?_)
  · rcases hx with hx | hx
    · exact absurd hx he
    · rw [hx]
      refine ⟨13, ⟨[], ⟨0, 10, 13, 13⟩, [], "java/lang/IllegalArgumentException", rfl, (fun z hz => by cases hz), rfl, by decide, (wt_g3 56 rfl rfl), (wt_n3 66 rfl rfl), rfl⟩, fun q9 => ?_⟩
      refine wt_o_astore hE [some (.ref (wt_ad (wt_xw X) 0)), some (.int x1), some (.int x2), some (.ref o), some (.ref q9)] ww_letter_d13 (by decide) rfl ?_
      refine wt_o_iconst hE (1 : Int32) ww_letter_d15 (by decide) ?_
      exact wt_o_ret hE hR (by decide) ww_letter_d16
  refine wt_o_put hE ww_letter_d8 ww_letter_d9 ?_
  refine wt_o_goto hE 17 ww_letter_d10 rfl ?_
  refine wt_o_iconst hE (0 : Int32) ww_letter_d17 (by decide) ?_
  exact wt_o_ret hE hR (by decide) ww_letter_d18
abbrev wt_y_lw_lost : MethodName := ⟨"WornTypeLaw", "lost", "(LWornType;I[J)I"⟩
abbrev wt_hh_lost : List (Nat × Nat × Nat × Nat) := [(0, 9, 12, 13)]
set_option maxRecDepth 100000 in
theorem wt_cm_lost : Cond.codeWith wt_y_lw_lost method_27_code 4 (some .int) wt_hh_lost ∈ wt_GT := (wt_g6 100 rfl rfl)
def wb602ww_method_27_code_r0 : List (List Nat) := [44, 3, 42, 27, 182, 0, 91, 133, 80, 167, 0, 6, 78, 4, 172, 3, 172] :: []
set_option maxRecDepth 100000 in
theorem wb602ww_method_27_code_c0 : wt_cs method_27_code 0 wb602ww_method_27_code_r0 := wt_cs_of (by decide +kernel)
theorem ww_lost_d0 : decode method_27_code 0 = .ok (.aload_n 2, 1) := wt_op44 wb602ww_method_27_code_c0 0 rfl rfl
theorem ww_lost_d1 : decode method_27_code 1 = .ok (.iconst 0, 1) := wt_op3 wb602ww_method_27_code_c0 1 rfl rfl
theorem ww_lost_d2 : decode method_27_code 2 = .ok (.aload_n 0, 1) := wt_op42 wb602ww_method_27_code_c0 2 rfl rfl
theorem ww_lost_d3 : decode method_27_code 3 = .ok (.iload_n 1, 1) := wt_op27 wb602ww_method_27_code_c0 3 rfl rfl
theorem ww_lost_d4 : decode method_27_code 4 = .ok (.invokevirtual 91, 3) := wt_op182 wb602ww_method_27_code_c0 4 rfl rfl rfl
theorem ww_lost_d7 : decode method_27_code 7 = .ok (.i2l, 1) := wt_op133 wb602ww_method_27_code_c0 7 rfl rfl
theorem ww_lost_d8 : decode method_27_code 8 = .ok (.lastore, 1) := wt_op80 wb602ww_method_27_code_c0 8 rfl rfl
theorem ww_lost_d9 : decode method_27_code 9 = .ok (.goto 6, 3) := wt_op167 wb602ww_method_27_code_c0 9 rfl rfl rfl
theorem ww_lost_d12 : decode method_27_code 12 = .ok (.astore_n 3, 1) := wt_op78 wb602ww_method_27_code_c0 12 rfl rfl
theorem ww_lost_d13 : decode method_27_code 13 = .ok (.iconst 1, 1) := wt_op4 wb602ww_method_27_code_c0 13 rfl rfl
theorem ww_lost_d14 : decode method_27_code 14 = .ok (.ireturn, 1) := wt_op172 wb602ww_method_27_code_c0 14 rfl rfl
theorem ww_lost_d15 : decode method_27_code 15 = .ok (.iconst 0, 1) := wt_op3 wb602ww_method_27_code_c0 15 rfl rfl
theorem ww_lost_d16 : decode method_27_code 16 = .ok (.ireturn, 1) := wt_op172 wb602ww_method_27_code_c0 16 rfl rfl
set_option maxRecDepth 100000 in
set_option maxHeartbeats 4000000 in
theorem ww_lost_ok {l : Launch} (htr : l.stackTraces = false) {w : wt_E} {o : Nat} (hod : ∀ i, wt_dom w i → wt_ad w i ≠ o) (hD : ∀ i, i < 108 → wt_dom w i) {n : Nat} {x1 : Int32} {σ : wt_St} {q : Nat × Int32 × wt_St} (h : wp_ap_lost n x1 σ = some q) (hx : q.1 = 0 ∨ q.1 = 1) : wt_CtrW l w o wt_y_lw_lost method_27_code 4 wt_hh_lost 8 8 [.ref (wt_ad w 0), .int x1, .ref o] σ q.2.2 := by
  refine wt_ctrW htr hod (by decide +kernel) wt_cm_lost rfl (Nat.le_of_ble_eq_true rfl) [some (.ref (wt_ad w 0)), some (.int x1), some (.ref o), none] rfl ?_
  intro X hXl hXw hE hR
  subst hXl
  subst hXw
  have hE : wt_OkO X o method_27_code 4 "WornTypeLaw" 8 8 := hE
  refine wt_o_aload_n hE ww_lost_d0 rfl ?_
  refine wt_o_iconst hE (0 : Int32) ww_lost_d1 (by decide) ?_
  refine wt_o_aload_n hE ww_lost_d2 rfl ?_
  refine wt_o_iload_n hE ww_lost_d3 rfl ?_
  refine wt_o_callX hE hR (dd := 7) [.int x1] wt_lm_lw_91 (wt_g6 101 rfl rfl) wt_ya_ap_lost (wp_ap_lost_ok htr hD h) (by decide) (hD 0 (by decide)) wt_L0 rfl rfl rfl (Nat.le_of_ble_eq_true rfl) (by decide) ww_lost_d4 (fun he => ?_) (fun he => ?_)
  · rcases hx with hx | hx
    · exact absurd hx he
    · rw [hx]
      refine ⟨12, ⟨[], ⟨0, 9, 12, 13⟩, [], "java/lang/IllegalArgumentException", rfl, (fun z hz => by cases hz), rfl, by decide, (wt_g3 56 rfl rfl), (wt_n3 66 rfl rfl), rfl⟩, fun q9 => ?_⟩
      refine wt_o_astore_n hE [some (.ref (wt_ad (wt_xw X) 0)), some (.int x1), some (.ref o), some (.ref q9)] ww_lost_d12 (by decide) rfl ?_
      refine wt_o_iconst hE (1 : Int32) ww_lost_d13 (by decide) ?_
      exact wt_o_ret hE hR (by decide) ww_lost_d14
  refine wt_o_put hE ww_lost_d7 ww_lost_d8 ?_
  refine wt_o_goto hE 15 ww_lost_d9 rfl ?_
  refine wt_o_iconst hE (0 : Int32) ww_lost_d15 (by decide) ?_
  exact wt_o_ret hE hR (by decide) ww_lost_d16
abbrev wt_y_lw_most : MethodName := ⟨"WornTypeLaw", "most", "(LWornType;I[J)I"⟩
abbrev wt_hh_most : List (Nat × Nat × Nat × Nat) := [(0, 9, 12, 13)]
set_option maxRecDepth 100000 in
theorem wt_cm_most : Cond.codeWith wt_y_lw_most method_24_code 4 (some .int) wt_hh_most ∈ wt_GT := (wt_g6 32 rfl rfl)
def wb602ww_method_24_code_r0 : List (List Nat) := [44, 3, 42, 27, 182, 0, 82, 133, 80, 167, 0, 6, 78, 4, 172, 3, 172] :: []
set_option maxRecDepth 100000 in
theorem wb602ww_method_24_code_c0 : wt_cs method_24_code 0 wb602ww_method_24_code_r0 := wt_cs_of (by decide +kernel)
theorem ww_most_d0 : decode method_24_code 0 = .ok (.aload_n 2, 1) := wt_op44 wb602ww_method_24_code_c0 0 rfl rfl
theorem ww_most_d1 : decode method_24_code 1 = .ok (.iconst 0, 1) := wt_op3 wb602ww_method_24_code_c0 1 rfl rfl
theorem ww_most_d2 : decode method_24_code 2 = .ok (.aload_n 0, 1) := wt_op42 wb602ww_method_24_code_c0 2 rfl rfl
theorem ww_most_d3 : decode method_24_code 3 = .ok (.iload_n 1, 1) := wt_op27 wb602ww_method_24_code_c0 3 rfl rfl
theorem ww_most_d4 : decode method_24_code 4 = .ok (.invokevirtual 82, 3) := wt_op182 wb602ww_method_24_code_c0 4 rfl rfl rfl
theorem ww_most_d7 : decode method_24_code 7 = .ok (.i2l, 1) := wt_op133 wb602ww_method_24_code_c0 7 rfl rfl
theorem ww_most_d8 : decode method_24_code 8 = .ok (.lastore, 1) := wt_op80 wb602ww_method_24_code_c0 8 rfl rfl
theorem ww_most_d9 : decode method_24_code 9 = .ok (.goto 6, 3) := wt_op167 wb602ww_method_24_code_c0 9 rfl rfl rfl
theorem ww_most_d12 : decode method_24_code 12 = .ok (.astore_n 3, 1) := wt_op78 wb602ww_method_24_code_c0 12 rfl rfl
theorem ww_most_d13 : decode method_24_code 13 = .ok (.iconst 1, 1) := wt_op4 wb602ww_method_24_code_c0 13 rfl rfl
theorem ww_most_d14 : decode method_24_code 14 = .ok (.ireturn, 1) := wt_op172 wb602ww_method_24_code_c0 14 rfl rfl
theorem ww_most_d15 : decode method_24_code 15 = .ok (.iconst 0, 1) := wt_op3 wb602ww_method_24_code_c0 15 rfl rfl
theorem ww_most_d16 : decode method_24_code 16 = .ok (.ireturn, 1) := wt_op172 wb602ww_method_24_code_c0 16 rfl rfl
set_option maxRecDepth 100000 in
set_option maxHeartbeats 4000000 in
theorem ww_most_ok {l : Launch} (htr : l.stackTraces = false) {w : wt_E} {o : Nat} (hod : ∀ i, wt_dom w i → wt_ad w i ≠ o) (hD : ∀ i, i < 108 → wt_dom w i) {n : Nat} {x1 : Int32} {σ : wt_St} {q : Nat × Int32 × wt_St} (h : wp_ap_most n x1 σ = some q) (hx : q.1 = 0 ∨ q.1 = 1) : wt_CtrW l w o wt_y_lw_most method_24_code 4 wt_hh_most 24 8 [.ref (wt_ad w 0), .int x1, .ref o] σ q.2.2 := by
  refine wt_ctrW htr hod (by decide +kernel) wt_cm_most rfl (Nat.le_of_ble_eq_true rfl) [some (.ref (wt_ad w 0)), some (.int x1), some (.ref o), none] rfl ?_
  intro X hXl hXw hE hR
  subst hXl
  subst hXw
  have hE : wt_OkO X o method_24_code 4 "WornTypeLaw" 24 8 := hE
  refine wt_o_aload_n hE ww_most_d0 rfl ?_
  refine wt_o_iconst hE (0 : Int32) ww_most_d1 (by decide) ?_
  refine wt_o_aload_n hE ww_most_d2 rfl ?_
  refine wt_o_iload_n hE ww_most_d3 rfl ?_
  refine wt_o_callX hE hR (dd := 23) [.int x1] wt_lm_lw_82 (wt_g6 33 rfl rfl) wt_ya_ap_most (wp_ap_most_ok htr hD h) (by decide) (hD 0 (by decide)) wt_L0 rfl rfl rfl (Nat.le_of_ble_eq_true rfl) (by decide) ww_most_d4 (fun he => ?_) (fun he => ?_)
  · rcases hx with hx | hx
    · exact absurd hx he
    · rw [hx]
      refine ⟨12, ⟨[], ⟨0, 9, 12, 13⟩, [], "java/lang/IllegalArgumentException", rfl, (fun z hz => by cases hz), rfl, by decide, (wt_g3 56 rfl rfl), (wt_n3 66 rfl rfl), rfl⟩, fun q9 => ?_⟩
      refine wt_o_astore_n hE [some (.ref (wt_ad (wt_xw X) 0)), some (.int x1), some (.ref o), some (.ref q9)] ww_most_d12 (by decide) rfl ?_
      refine wt_o_iconst hE (1 : Int32) ww_most_d13 (by decide) ?_
      exact wt_o_ret hE hR (by decide) ww_most_d14
  refine wt_o_put hE ww_most_d7 ww_most_d8 ?_
  refine wt_o_goto hE 15 ww_most_d9 rfl ?_
  refine wt_o_iconst hE (0 : Int32) ww_most_d15 (by decide) ?_
  exact wt_o_ret hE hR (by decide) ww_most_d16
abbrev wt_y_lw_needs : MethodName := ⟨"WornTypeLaw", "needs", "(LWornType;II[J)I"⟩
abbrev wt_hh_needs : List (Nat × Nat × Nat × Nat) := [(0, 10, 13, 37), (0, 10, 17, 13)]
set_option maxRecDepth 100000 in
theorem wt_cm_needs : Cond.codeWith wt_y_lw_needs method_11_code 5 (some .int) wt_hh_needs ∈ wt_GT := (wt_g5 27 rfl rfl)
def wb602ww_method_11_code_r0 : List (List Nat) := [45, 3, 42, 27, 28, 182, 0, 42, 133, 80, 167, 0, 11, 58, 4, 4, 172, 58, 4, 5, 172, 3, 172] :: []
set_option maxRecDepth 100000 in
theorem wb602ww_method_11_code_c0 : wt_cs method_11_code 0 wb602ww_method_11_code_r0 := wt_cs_of (by decide +kernel)
theorem ww_needs_d0 : decode method_11_code 0 = .ok (.aload_n 3, 1) := wt_op45 wb602ww_method_11_code_c0 0 rfl rfl
theorem ww_needs_d1 : decode method_11_code 1 = .ok (.iconst 0, 1) := wt_op3 wb602ww_method_11_code_c0 1 rfl rfl
theorem ww_needs_d2 : decode method_11_code 2 = .ok (.aload_n 0, 1) := wt_op42 wb602ww_method_11_code_c0 2 rfl rfl
theorem ww_needs_d3 : decode method_11_code 3 = .ok (.iload_n 1, 1) := wt_op27 wb602ww_method_11_code_c0 3 rfl rfl
theorem ww_needs_d4 : decode method_11_code 4 = .ok (.iload_n 2, 1) := wt_op28 wb602ww_method_11_code_c0 4 rfl rfl
theorem ww_needs_d5 : decode method_11_code 5 = .ok (.invokevirtual 42, 3) := wt_op182 wb602ww_method_11_code_c0 5 rfl rfl rfl
theorem ww_needs_d8 : decode method_11_code 8 = .ok (.i2l, 1) := wt_op133 wb602ww_method_11_code_c0 8 rfl rfl
theorem ww_needs_d9 : decode method_11_code 9 = .ok (.lastore, 1) := wt_op80 wb602ww_method_11_code_c0 9 rfl rfl
theorem ww_needs_d10 : decode method_11_code 10 = .ok (.goto 11, 3) := wt_op167 wb602ww_method_11_code_c0 10 rfl rfl rfl
theorem ww_needs_d13 : decode method_11_code 13 = .ok (.astore 4, 2) := wt_op58 wb602ww_method_11_code_c0 13 rfl rfl
theorem ww_needs_d15 : decode method_11_code 15 = .ok (.iconst 1, 1) := wt_op4 wb602ww_method_11_code_c0 15 rfl rfl
theorem ww_needs_d16 : decode method_11_code 16 = .ok (.ireturn, 1) := wt_op172 wb602ww_method_11_code_c0 16 rfl rfl
theorem ww_needs_d17 : decode method_11_code 17 = .ok (.astore 4, 2) := wt_op58 wb602ww_method_11_code_c0 17 rfl rfl
theorem ww_needs_d19 : decode method_11_code 19 = .ok (.iconst 2, 1) := wt_op5 wb602ww_method_11_code_c0 19 rfl rfl
theorem ww_needs_d20 : decode method_11_code 20 = .ok (.ireturn, 1) := wt_op172 wb602ww_method_11_code_c0 20 rfl rfl
theorem ww_needs_d21 : decode method_11_code 21 = .ok (.iconst 0, 1) := wt_op3 wb602ww_method_11_code_c0 21 rfl rfl
theorem ww_needs_d22 : decode method_11_code 22 = .ok (.ireturn, 1) := wt_op172 wb602ww_method_11_code_c0 22 rfl rfl
set_option maxRecDepth 100000 in
set_option maxHeartbeats 4000000 in
theorem ww_needs_ok {l : Launch} (htr : l.stackTraces = false) {w : wt_E} {o : Nat} (hod : ∀ i, wt_dom w i → wt_ad w i ≠ o) (hD : ∀ i, i < 108 → wt_dom w i) {n : Nat} {x1 : Int32} {x2 : Int32} {σ : wt_St} {q : Nat × Int32 × wt_St} (h : wp_ap_needs n x1 x2 σ = some q) (hx : q.1 = 0 ∨ q.1 = 2 ∨ q.1 = 1) : wt_CtrW l w o wt_y_lw_needs method_11_code 5 wt_hh_needs 8 8 [.ref (wt_ad w 0), .int x1, .int x2, .ref o] σ q.2.2 := by
  refine wt_ctrW htr hod (by decide +kernel) wt_cm_needs rfl (Nat.le_of_ble_eq_true rfl) [some (.ref (wt_ad w 0)), some (.int x1), some (.int x2), some (.ref o), none] rfl ?_
  intro X hXl hXw hE hR
  subst hXl
  subst hXw
  have hE : wt_OkO X o method_11_code 5 "WornTypeLaw" 8 8 := hE
  refine wt_o_aload_n hE ww_needs_d0 rfl ?_
  refine wt_o_iconst hE (0 : Int32) ww_needs_d1 (by decide) ?_
  refine wt_o_aload_n hE ww_needs_d2 rfl ?_
  refine wt_o_iload_n hE ww_needs_d3 rfl ?_
  refine wt_o_iload_n hE ww_needs_d4 rfl ?_
  refine wt_o_callX hE hR (dd := 7) [.int x1, .int x2] wt_lm_lw_42 (wt_g5 28 rfl rfl) wt_ya_ap_needs (wp_ap_needs_ok htr hD h) (by decide) (hD 0 (by decide)) wt_L0 rfl rfl rfl (Nat.le_of_ble_eq_true rfl) (by decide) ww_needs_d5 (fun he => ?_) (fun he => ?_)
  · rcases hx with hx | hx | hx
    · exact absurd hx he
    · rw [hx]
      refine ⟨13, ⟨[], ⟨0, 10, 13, 37⟩, [⟨0, 10, 17, 13⟩], "java/util/NoSuchElementException", rfl, (fun z hz => by cases hz), rfl, by decide, (wt_g4 195 rfl rfl), (wt_n4 209 rfl rfl), rfl⟩, fun q9 => ?_⟩
      refine wt_o_astore hE [some (.ref (wt_ad (wt_xw X) 0)), some (.int x1), some (.int x2), some (.ref o), some (.ref q9)] ww_needs_d13 (by decide) rfl ?_
      refine wt_o_iconst hE (1 : Int32) ww_needs_d15 (by decide) ?_
      exact wt_o_ret hE hR (by decide) ww_needs_d16
    · rw [hx]
      refine ⟨17, ⟨[⟨0, 10, 13, 37⟩], ⟨0, 10, 17, 13⟩, [], "java/lang/IllegalArgumentException", rfl, (fun z hz => Or.inr (by cases List.mem_singleton.mp hz; exact ⟨by decide, "java/util/NoSuchElementException", (wt_g4 195 rfl rfl), hR.2.2.2.2.1⟩)), rfl, by decide, (wt_g3 56 rfl rfl), (wt_n3 66 rfl rfl), rfl⟩, fun q9 => ?_⟩
      refine wt_o_astore hE [some (.ref (wt_ad (wt_xw X) 0)), some (.int x1), some (.int x2), some (.ref o), some (.ref q9)] ww_needs_d17 (by decide) rfl ?_
      refine wt_o_iconst hE (2 : Int32) ww_needs_d19 (by decide) ?_
      exact wt_o_ret hE hR (by decide) ww_needs_d20
  refine wt_o_put hE ww_needs_d8 ww_needs_d9 ?_
  refine wt_o_goto hE 21 ww_needs_d10 rfl ?_
  refine wt_o_iconst hE (0 : Int32) ww_needs_d21 (by decide) ?_
  exact wt_o_ret hE hR (by decide) ww_needs_d22
abbrev wt_y_lw_page : MethodName := ⟨"WornTypeLaw", "page", "(LWornType;II[J)I"⟩
abbrev wt_hh_page : List (Nat × Nat × Nat × Nat) := [(0, 10, 13, 37), (0, 10, 17, 13)]
set_option maxRecDepth 100000 in
theorem wt_cm_page : Cond.codeWith wt_y_lw_page method_18_code 5 (some .int) wt_hh_page ∈ wt_GT := (wt_g5 128 rfl rfl)
def wb602ww_method_18_code_r0 : List (List Nat) := [45, 3, 42, 27, 28, 182, 0, 63, 133, 80, 167, 0, 11, 58, 4, 4, 172, 58, 4, 5, 172, 3, 172] :: []
set_option maxRecDepth 100000 in
theorem wb602ww_method_18_code_c0 : wt_cs method_18_code 0 wb602ww_method_18_code_r0 := wt_cs_of (by decide +kernel)
theorem ww_page_d0 : decode method_18_code 0 = .ok (.aload_n 3, 1) := wt_op45 wb602ww_method_18_code_c0 0 rfl rfl
theorem ww_page_d1 : decode method_18_code 1 = .ok (.iconst 0, 1) := wt_op3 wb602ww_method_18_code_c0 1 rfl rfl
theorem ww_page_d2 : decode method_18_code 2 = .ok (.aload_n 0, 1) := wt_op42 wb602ww_method_18_code_c0 2 rfl rfl
theorem ww_page_d3 : decode method_18_code 3 = .ok (.iload_n 1, 1) := wt_op27 wb602ww_method_18_code_c0 3 rfl rfl
theorem ww_page_d4 : decode method_18_code 4 = .ok (.iload_n 2, 1) := wt_op28 wb602ww_method_18_code_c0 4 rfl rfl
theorem ww_page_d5 : decode method_18_code 5 = .ok (.invokevirtual 63, 3) := wt_op182 wb602ww_method_18_code_c0 5 rfl rfl rfl
theorem ww_page_d8 : decode method_18_code 8 = .ok (.i2l, 1) := wt_op133 wb602ww_method_18_code_c0 8 rfl rfl
theorem ww_page_d9 : decode method_18_code 9 = .ok (.lastore, 1) := wt_op80 wb602ww_method_18_code_c0 9 rfl rfl
theorem ww_page_d10 : decode method_18_code 10 = .ok (.goto 11, 3) := wt_op167 wb602ww_method_18_code_c0 10 rfl rfl rfl
theorem ww_page_d13 : decode method_18_code 13 = .ok (.astore 4, 2) := wt_op58 wb602ww_method_18_code_c0 13 rfl rfl
theorem ww_page_d15 : decode method_18_code 15 = .ok (.iconst 1, 1) := wt_op4 wb602ww_method_18_code_c0 15 rfl rfl
theorem ww_page_d16 : decode method_18_code 16 = .ok (.ireturn, 1) := wt_op172 wb602ww_method_18_code_c0 16 rfl rfl
theorem ww_page_d17 : decode method_18_code 17 = .ok (.astore 4, 2) := wt_op58 wb602ww_method_18_code_c0 17 rfl rfl
theorem ww_page_d19 : decode method_18_code 19 = .ok (.iconst 2, 1) := wt_op5 wb602ww_method_18_code_c0 19 rfl rfl
theorem ww_page_d20 : decode method_18_code 20 = .ok (.ireturn, 1) := wt_op172 wb602ww_method_18_code_c0 20 rfl rfl
theorem ww_page_d21 : decode method_18_code 21 = .ok (.iconst 0, 1) := wt_op3 wb602ww_method_18_code_c0 21 rfl rfl
theorem ww_page_d22 : decode method_18_code 22 = .ok (.ireturn, 1) := wt_op172 wb602ww_method_18_code_c0 22 rfl rfl
set_option maxRecDepth 100000 in
set_option maxHeartbeats 4000000 in
theorem ww_page_ok {l : Launch} (htr : l.stackTraces = false) {w : wt_E} {o : Nat} (hod : ∀ i, wt_dom w i → wt_ad w i ≠ o) (hD : ∀ i, i < 108 → wt_dom w i) {n : Nat} {x1 : Int32} {x2 : Int32} {σ : wt_St} {q : Nat × Int32 × wt_St} (h : wp_ap_page n x1 x2 σ = some q) (hx : q.1 = 0 ∨ q.1 = 2 ∨ q.1 = 1) : wt_CtrW l w o wt_y_lw_page method_18_code 5 wt_hh_page 8 8 [.ref (wt_ad w 0), .int x1, .int x2, .ref o] σ q.2.2 := by
  refine wt_ctrW htr hod (by decide +kernel) wt_cm_page rfl (Nat.le_of_ble_eq_true rfl) [some (.ref (wt_ad w 0)), some (.int x1), some (.int x2), some (.ref o), none] rfl ?_
  intro X hXl hXw hE hR
  subst hXl
  subst hXw
  have hE : wt_OkO X o method_18_code 5 "WornTypeLaw" 8 8 := hE
  refine wt_o_aload_n hE ww_page_d0 rfl ?_
  refine wt_o_iconst hE (0 : Int32) ww_page_d1 (by decide) ?_
  refine wt_o_aload_n hE ww_page_d2 rfl ?_
  refine wt_o_iload_n hE ww_page_d3 rfl ?_
  refine wt_o_iload_n hE ww_page_d4 rfl ?_
  refine wt_o_callX hE hR (dd := 7) [.int x1, .int x2] wt_lm_lw_63 (wt_g5 129 rfl rfl) wt_ya_ap_page (wp_ap_page_ok htr hD h) (by decide) (hD 0 (by decide)) wt_L0 rfl rfl rfl (Nat.le_of_ble_eq_true rfl) (by decide) ww_page_d5 (fun he => ?_) (fun he => ?_)
  · rcases hx with hx | hx | hx
    · exact absurd hx he
    · rw [hx]
      refine ⟨13, ⟨[], ⟨0, 10, 13, 37⟩, [⟨0, 10, 17, 13⟩], "java/util/NoSuchElementException", rfl, (fun z hz => by cases hz), rfl, by decide, (wt_g4 195 rfl rfl), (wt_n4 209 rfl rfl), rfl⟩, fun q9 => ?_⟩
      refine wt_o_astore hE [some (.ref (wt_ad (wt_xw X) 0)), some (.int x1), some (.int x2), some (.ref o), some (.ref q9)] ww_page_d13 (by decide) rfl ?_
      refine wt_o_iconst hE (1 : Int32) ww_page_d15 (by decide) ?_
      exact wt_o_ret hE hR (by decide) ww_page_d16
    · rw [hx]
      refine ⟨17, ⟨[⟨0, 10, 13, 37⟩], ⟨0, 10, 17, 13⟩, [], "java/lang/IllegalArgumentException", rfl, (fun z hz => Or.inr (by cases List.mem_singleton.mp hz; exact ⟨by decide, "java/util/NoSuchElementException", (wt_g4 195 rfl rfl), hR.2.2.2.2.1⟩)), rfl, by decide, (wt_g3 56 rfl rfl), (wt_n3 66 rfl rfl), rfl⟩, fun q9 => ?_⟩
      refine wt_o_astore hE [some (.ref (wt_ad (wt_xw X) 0)), some (.int x1), some (.int x2), some (.ref o), some (.ref q9)] ww_page_d17 (by decide) rfl ?_
      refine wt_o_iconst hE (2 : Int32) ww_page_d19 (by decide) ?_
      exact wt_o_ret hE hR (by decide) ww_page_d20
  refine wt_o_put hE ww_page_d8 ww_page_d9 ?_
  refine wt_o_goto hE 21 ww_page_d10 rfl ?_
  refine wt_o_iconst hE (0 : Int32) ww_page_d21 (by decide) ?_
  exact wt_o_ret hE hR (by decide) ww_page_d22
abbrev wt_y_lw_piece : MethodName := ⟨"WornTypeLaw", "piece", "(LWornType;III[J)I"⟩
abbrev wt_hh_piece : List (Nat × Nat × Nat × Nat) := [(0, 12, 15, 32), (0, 12, 19, 13)]
set_option maxRecDepth 100000 in
theorem wt_cm_piece : Cond.codeWith wt_y_lw_piece method_8_code 6 (some .int) wt_hh_piece ∈ wt_GT := (wt_g4 170 rfl rfl)
def wb602ww_method_8_code_r0 : List (List Nat) := [25, 4, 3, 42, 27, 28, 29, 182, 0, 28, 133, 80, 167, 0, 11, 58, 5, 4, 172, 58, 5, 5, 172, 3, 172] :: []
set_option maxRecDepth 100000 in
theorem wb602ww_method_8_code_c0 : wt_cs method_8_code 0 wb602ww_method_8_code_r0 := wt_cs_of (by decide +kernel)
theorem ww_piece_d0 : decode method_8_code 0 = .ok (.aload 4, 2) := wt_op25 wb602ww_method_8_code_c0 0 rfl rfl
theorem ww_piece_d2 : decode method_8_code 2 = .ok (.iconst 0, 1) := wt_op3 wb602ww_method_8_code_c0 2 rfl rfl
theorem ww_piece_d3 : decode method_8_code 3 = .ok (.aload_n 0, 1) := wt_op42 wb602ww_method_8_code_c0 3 rfl rfl
theorem ww_piece_d4 : decode method_8_code 4 = .ok (.iload_n 1, 1) := wt_op27 wb602ww_method_8_code_c0 4 rfl rfl
theorem ww_piece_d5 : decode method_8_code 5 = .ok (.iload_n 2, 1) := wt_op28 wb602ww_method_8_code_c0 5 rfl rfl
theorem ww_piece_d6 : decode method_8_code 6 = .ok (.iload_n 3, 1) := wt_op29 wb602ww_method_8_code_c0 6 rfl rfl
theorem ww_piece_d7 : decode method_8_code 7 = .ok (.invokevirtual 28, 3) := wt_op182 wb602ww_method_8_code_c0 7 rfl rfl rfl
theorem ww_piece_d10 : decode method_8_code 10 = .ok (.i2l, 1) := wt_op133 wb602ww_method_8_code_c0 10 rfl rfl
theorem ww_piece_d11 : decode method_8_code 11 = .ok (.lastore, 1) := wt_op80 wb602ww_method_8_code_c0 11 rfl rfl
theorem ww_piece_d12 : decode method_8_code 12 = .ok (.goto 11, 3) := wt_op167 wb602ww_method_8_code_c0 12 rfl rfl rfl
theorem ww_piece_d15 : decode method_8_code 15 = .ok (.astore 5, 2) := wt_op58 wb602ww_method_8_code_c0 15 rfl rfl
theorem ww_piece_d17 : decode method_8_code 17 = .ok (.iconst 1, 1) := wt_op4 wb602ww_method_8_code_c0 17 rfl rfl
theorem ww_piece_d18 : decode method_8_code 18 = .ok (.ireturn, 1) := wt_op172 wb602ww_method_8_code_c0 18 rfl rfl
theorem ww_piece_d19 : decode method_8_code 19 = .ok (.astore 5, 2) := wt_op58 wb602ww_method_8_code_c0 19 rfl rfl
theorem ww_piece_d21 : decode method_8_code 21 = .ok (.iconst 2, 1) := wt_op5 wb602ww_method_8_code_c0 21 rfl rfl
theorem ww_piece_d22 : decode method_8_code 22 = .ok (.ireturn, 1) := wt_op172 wb602ww_method_8_code_c0 22 rfl rfl
theorem ww_piece_d23 : decode method_8_code 23 = .ok (.iconst 0, 1) := wt_op3 wb602ww_method_8_code_c0 23 rfl rfl
theorem ww_piece_d24 : decode method_8_code 24 = .ok (.ireturn, 1) := wt_op172 wb602ww_method_8_code_c0 24 rfl rfl
set_option maxRecDepth 100000 in
set_option maxHeartbeats 4000000 in
theorem ww_piece_ok {l : Launch} (htr : l.stackTraces = false) {w : wt_E} {o : Nat} (hod : ∀ i, wt_dom w i → wt_ad w i ≠ o) (hD : ∀ i, i < 108 → wt_dom w i) {n : Nat} {x1 : Int32} {x2 : Int32} {x3 : Int32} {σ : wt_St} {q : Nat × Int32 × wt_St} (h : wp_ap_piece n x1 x2 x3 σ = some q) (hx : q.1 = 0 ∨ q.1 = 3 ∨ q.1 = 1) : wt_CtrW l w o wt_y_lw_piece method_8_code 6 wt_hh_piece 8 8 [.ref (wt_ad w 0), .int x1, .int x2, .int x3, .ref o] σ q.2.2 := by
  refine wt_ctrW htr hod (by decide +kernel) wt_cm_piece rfl (Nat.le_of_ble_eq_true rfl) [some (.ref (wt_ad w 0)), some (.int x1), some (.int x2), some (.int x3), some (.ref o), none] rfl ?_
  intro X hXl hXw hE hR
  subst hXl
  subst hXw
  have hE : wt_OkO X o method_8_code 6 "WornTypeLaw" 8 8 := hE
  refine wt_o_aload hE ww_piece_d0 rfl ?_
  refine wt_o_iconst hE (0 : Int32) ww_piece_d2 (by decide) ?_
  refine wt_o_aload_n hE ww_piece_d3 rfl ?_
  refine wt_o_iload_n hE ww_piece_d4 rfl ?_
  refine wt_o_iload_n hE ww_piece_d5 rfl ?_
  refine wt_o_iload_n hE ww_piece_d6 rfl ?_
  refine wt_o_callX hE hR (dd := 7) [.int x1, .int x2, .int x3] wt_lm_lw_28 (wt_g4 172 rfl rfl) wt_ya_ap_piece (wp_ap_piece_ok htr hD h) (by decide) (hD 0 (by decide)) wt_L0 rfl rfl rfl (Nat.le_of_ble_eq_true rfl) (by decide) ww_piece_d7 (fun he => ?_) (fun he => ?_)
  · rcases hx with hx | hx | hx
    · exact absurd hx he
    · rw [hx]
      refine ⟨15, ⟨[], ⟨0, 12, 15, 32⟩, [⟨0, 12, 19, 13⟩], "java/lang/IndexOutOfBoundsException", rfl, (fun z hz => by cases hz), rfl, by decide, (wt_g4 171 rfl rfl), (wt_n4 178 rfl rfl), rfl⟩, fun q9 => ?_⟩
      refine wt_o_astore hE [some (.ref (wt_ad (wt_xw X) 0)), some (.int x1), some (.int x2), some (.int x3), some (.ref o), some (.ref q9)] ww_piece_d15 (by decide) rfl ?_
      refine wt_o_iconst hE (1 : Int32) ww_piece_d17 (by decide) ?_
      exact wt_o_ret hE hR (by decide) ww_piece_d18
    · rw [hx]
      refine ⟨19, ⟨[⟨0, 12, 15, 32⟩], ⟨0, 12, 19, 13⟩, [], "java/lang/IllegalArgumentException", rfl, (fun z hz => Or.inr (by cases List.mem_singleton.mp hz; exact ⟨by decide, "java/lang/IndexOutOfBoundsException", (wt_g4 171 rfl rfl), hR.2.2.2.2.2⟩)), rfl, by decide, (wt_g3 56 rfl rfl), (wt_n3 66 rfl rfl), rfl⟩, fun q9 => ?_⟩
      refine wt_o_astore hE [some (.ref (wt_ad (wt_xw X) 0)), some (.int x1), some (.int x2), some (.int x3), some (.ref o), some (.ref q9)] ww_piece_d19 (by decide) rfl ?_
      refine wt_o_iconst hE (2 : Int32) ww_piece_d21 (by decide) ?_
      exact wt_o_ret hE hR (by decide) ww_piece_d22
  refine wt_o_put hE ww_piece_d10 ww_piece_d11 ?_
  refine wt_o_goto hE 23 ww_piece_d12 rfl ?_
  refine wt_o_iconst hE (0 : Int32) ww_piece_d23 (by decide) ?_
  exact wt_o_ret hE hR (by decide) ww_piece_d24
abbrev wt_y_lw_print : MethodName := ⟨"WornTypeLaw", "print", "(LWornType;II[J)I"⟩
abbrev wt_hh_print : List (Nat × Nat × Nat × Nat) := [(0, 10, 13, 37), (0, 10, 17, 13)]
set_option maxRecDepth 100000 in
theorem wt_cm_print : Cond.codeWith wt_y_lw_print method_16_code 5 (some .int) wt_hh_print ∈ wt_GT := (wt_g5 94 rfl rfl)
def wb602ww_method_16_code_r0 : List (List Nat) := [45, 3, 42, 27, 28, 182, 0, 57, 133, 80, 167, 0, 11, 58, 4, 4, 172, 58, 4, 5, 172, 3, 172] :: []
set_option maxRecDepth 100000 in
theorem wb602ww_method_16_code_c0 : wt_cs method_16_code 0 wb602ww_method_16_code_r0 := wt_cs_of (by decide +kernel)
theorem ww_print_d0 : decode method_16_code 0 = .ok (.aload_n 3, 1) := wt_op45 wb602ww_method_16_code_c0 0 rfl rfl
theorem ww_print_d1 : decode method_16_code 1 = .ok (.iconst 0, 1) := wt_op3 wb602ww_method_16_code_c0 1 rfl rfl
theorem ww_print_d2 : decode method_16_code 2 = .ok (.aload_n 0, 1) := wt_op42 wb602ww_method_16_code_c0 2 rfl rfl
theorem ww_print_d3 : decode method_16_code 3 = .ok (.iload_n 1, 1) := wt_op27 wb602ww_method_16_code_c0 3 rfl rfl
theorem ww_print_d4 : decode method_16_code 4 = .ok (.iload_n 2, 1) := wt_op28 wb602ww_method_16_code_c0 4 rfl rfl
theorem ww_print_d5 : decode method_16_code 5 = .ok (.invokevirtual 57, 3) := wt_op182 wb602ww_method_16_code_c0 5 rfl rfl rfl
theorem ww_print_d8 : decode method_16_code 8 = .ok (.i2l, 1) := wt_op133 wb602ww_method_16_code_c0 8 rfl rfl
theorem ww_print_d9 : decode method_16_code 9 = .ok (.lastore, 1) := wt_op80 wb602ww_method_16_code_c0 9 rfl rfl
theorem ww_print_d10 : decode method_16_code 10 = .ok (.goto 11, 3) := wt_op167 wb602ww_method_16_code_c0 10 rfl rfl rfl
theorem ww_print_d13 : decode method_16_code 13 = .ok (.astore 4, 2) := wt_op58 wb602ww_method_16_code_c0 13 rfl rfl
theorem ww_print_d15 : decode method_16_code 15 = .ok (.iconst 1, 1) := wt_op4 wb602ww_method_16_code_c0 15 rfl rfl
theorem ww_print_d16 : decode method_16_code 16 = .ok (.ireturn, 1) := wt_op172 wb602ww_method_16_code_c0 16 rfl rfl
theorem ww_print_d17 : decode method_16_code 17 = .ok (.astore 4, 2) := wt_op58 wb602ww_method_16_code_c0 17 rfl rfl
theorem ww_print_d19 : decode method_16_code 19 = .ok (.iconst 2, 1) := wt_op5 wb602ww_method_16_code_c0 19 rfl rfl
theorem ww_print_d20 : decode method_16_code 20 = .ok (.ireturn, 1) := wt_op172 wb602ww_method_16_code_c0 20 rfl rfl
theorem ww_print_d21 : decode method_16_code 21 = .ok (.iconst 0, 1) := wt_op3 wb602ww_method_16_code_c0 21 rfl rfl
theorem ww_print_d22 : decode method_16_code 22 = .ok (.ireturn, 1) := wt_op172 wb602ww_method_16_code_c0 22 rfl rfl
set_option maxRecDepth 100000 in
set_option maxHeartbeats 4000000 in
theorem ww_print_ok {l : Launch} (htr : l.stackTraces = false) {w : wt_E} {o : Nat} (hod : ∀ i, wt_dom w i → wt_ad w i ≠ o) (hD : ∀ i, i < 108 → wt_dom w i) {n : Nat} {x1 : Int32} {x2 : Int32} {σ : wt_St} {q : Nat × Int32 × wt_St} (h : wp_ap_print n x1 x2 σ = some q) (hx : q.1 = 0 ∨ q.1 = 2 ∨ q.1 = 1) : wt_CtrW l w o wt_y_lw_print method_16_code 5 wt_hh_print 9 8 [.ref (wt_ad w 0), .int x1, .int x2, .ref o] σ q.2.2 := by
  refine wt_ctrW htr hod (by decide +kernel) wt_cm_print rfl (Nat.le_of_ble_eq_true rfl) [some (.ref (wt_ad w 0)), some (.int x1), some (.int x2), some (.ref o), none] rfl ?_
  intro X hXl hXw hE hR
  subst hXl
  subst hXw
  have hE : wt_OkO X o method_16_code 5 "WornTypeLaw" 9 8 := hE
  refine wt_o_aload_n hE ww_print_d0 rfl ?_
  refine wt_o_iconst hE (0 : Int32) ww_print_d1 (by decide) ?_
  refine wt_o_aload_n hE ww_print_d2 rfl ?_
  refine wt_o_iload_n hE ww_print_d3 rfl ?_
  refine wt_o_iload_n hE ww_print_d4 rfl ?_
  refine wt_o_callX hE hR (dd := 8) [.int x1, .int x2] wt_lm_lw_57 (wt_g5 95 rfl rfl) wt_ya_ap_print (wp_ap_print_ok htr hD h) (by decide) (hD 0 (by decide)) wt_L0 rfl rfl rfl (Nat.le_of_ble_eq_true rfl) (by decide) ww_print_d5 (fun he => ?_) (fun he => ?_)
  · rcases hx with hx | hx | hx
    · exact absurd hx he
    · rw [hx]
      refine ⟨13, ⟨[], ⟨0, 10, 13, 37⟩, [⟨0, 10, 17, 13⟩], "java/util/NoSuchElementException", rfl, (fun z hz => by cases hz), rfl, by decide, (wt_g4 195 rfl rfl), (wt_n4 209 rfl rfl), rfl⟩, fun q9 => ?_⟩
      refine wt_o_astore hE [some (.ref (wt_ad (wt_xw X) 0)), some (.int x1), some (.int x2), some (.ref o), some (.ref q9)] ww_print_d13 (by decide) rfl ?_
      refine wt_o_iconst hE (1 : Int32) ww_print_d15 (by decide) ?_
      exact wt_o_ret hE hR (by decide) ww_print_d16
    · rw [hx]
      refine ⟨17, ⟨[⟨0, 10, 13, 37⟩], ⟨0, 10, 17, 13⟩, [], "java/lang/IllegalArgumentException", rfl, (fun z hz => Or.inr (by cases List.mem_singleton.mp hz; exact ⟨by decide, "java/util/NoSuchElementException", (wt_g4 195 rfl rfl), hR.2.2.2.2.1⟩)), rfl, by decide, (wt_g3 56 rfl rfl), (wt_n3 66 rfl rfl), rfl⟩, fun q9 => ?_⟩
      refine wt_o_astore hE [some (.ref (wt_ad (wt_xw X) 0)), some (.int x1), some (.int x2), some (.ref o), some (.ref q9)] ww_print_d17 (by decide) rfl ?_
      refine wt_o_iconst hE (2 : Int32) ww_print_d19 (by decide) ?_
      exact wt_o_ret hE hR (by decide) ww_print_d20
  refine wt_o_put hE ww_print_d8 ww_print_d9 ?_
  refine wt_o_goto hE 21 ww_print_d10 rfl ?_
  refine wt_o_iconst hE (0 : Int32) ww_print_d21 (by decide) ?_
  exact wt_o_ret hE hR (by decide) ww_print_d22
abbrev wt_y_lw_read : MethodName := ⟨"WornTypeLaw", "read", "(LWornType;II[J)I"⟩
abbrev wt_hh_read : List (Nat × Nat × Nat × Nat) := [(0, 10, 13, 37)]
set_option maxRecDepth 100000 in
theorem wt_cm_read : Cond.codeWith wt_y_lw_read method_19_code 5 (some .int) wt_hh_read ∈ wt_GT := (wt_g5 164 rfl rfl)
def wb602ww_method_19_code_r0 : List (List Nat) := [45, 3, 42, 27, 28, 182, 0, 66, 133, 80, 167, 0, 7, 58, 4, 4, 172, 3, 172] :: []
set_option maxRecDepth 100000 in
theorem wb602ww_method_19_code_c0 : wt_cs method_19_code 0 wb602ww_method_19_code_r0 := wt_cs_of (by decide +kernel)
theorem ww_read_d0 : decode method_19_code 0 = .ok (.aload_n 3, 1) := wt_op45 wb602ww_method_19_code_c0 0 rfl rfl
theorem ww_read_d1 : decode method_19_code 1 = .ok (.iconst 0, 1) := wt_op3 wb602ww_method_19_code_c0 1 rfl rfl
theorem ww_read_d2 : decode method_19_code 2 = .ok (.aload_n 0, 1) := wt_op42 wb602ww_method_19_code_c0 2 rfl rfl
theorem ww_read_d3 : decode method_19_code 3 = .ok (.iload_n 1, 1) := wt_op27 wb602ww_method_19_code_c0 3 rfl rfl
theorem ww_read_d4 : decode method_19_code 4 = .ok (.iload_n 2, 1) := wt_op28 wb602ww_method_19_code_c0 4 rfl rfl
theorem ww_read_d5 : decode method_19_code 5 = .ok (.invokevirtual 66, 3) := wt_op182 wb602ww_method_19_code_c0 5 rfl rfl rfl
theorem ww_read_d8 : decode method_19_code 8 = .ok (.i2l, 1) := wt_op133 wb602ww_method_19_code_c0 8 rfl rfl
theorem ww_read_d9 : decode method_19_code 9 = .ok (.lastore, 1) := wt_op80 wb602ww_method_19_code_c0 9 rfl rfl
theorem ww_read_d10 : decode method_19_code 10 = .ok (.goto 7, 3) := wt_op167 wb602ww_method_19_code_c0 10 rfl rfl rfl
theorem ww_read_d13 : decode method_19_code 13 = .ok (.astore 4, 2) := wt_op58 wb602ww_method_19_code_c0 13 rfl rfl
theorem ww_read_d15 : decode method_19_code 15 = .ok (.iconst 1, 1) := wt_op4 wb602ww_method_19_code_c0 15 rfl rfl
theorem ww_read_d16 : decode method_19_code 16 = .ok (.ireturn, 1) := wt_op172 wb602ww_method_19_code_c0 16 rfl rfl
theorem ww_read_d17 : decode method_19_code 17 = .ok (.iconst 0, 1) := wt_op3 wb602ww_method_19_code_c0 17 rfl rfl
theorem ww_read_d18 : decode method_19_code 18 = .ok (.ireturn, 1) := wt_op172 wb602ww_method_19_code_c0 18 rfl rfl
set_option maxRecDepth 100000 in
set_option maxHeartbeats 4000000 in
theorem ww_read_ok {l : Launch} (htr : l.stackTraces = false) {w : wt_E} {o : Nat} (hod : ∀ i, wt_dom w i → wt_ad w i ≠ o) (hD : ∀ i, i < 108 → wt_dom w i) {n : Nat} {x1 : Int32} {x2 : Int32} {σ : wt_St} {q : Nat × Int32 × wt_St} (h : wp_ap_read n x1 x2 σ = some q) (hx : q.1 = 0 ∨ q.1 = 2) : wt_CtrW l w o wt_y_lw_read method_19_code 5 wt_hh_read 8 8 [.ref (wt_ad w 0), .int x1, .int x2, .ref o] σ q.2.2 := by
  refine wt_ctrW htr hod (by decide +kernel) wt_cm_read rfl (Nat.le_of_ble_eq_true rfl) [some (.ref (wt_ad w 0)), some (.int x1), some (.int x2), some (.ref o), none] rfl ?_
  intro X hXl hXw hE hR
  subst hXl
  subst hXw
  have hE : wt_OkO X o method_19_code 5 "WornTypeLaw" 8 8 := hE
  refine wt_o_aload_n hE ww_read_d0 rfl ?_
  refine wt_o_iconst hE (0 : Int32) ww_read_d1 (by decide) ?_
  refine wt_o_aload_n hE ww_read_d2 rfl ?_
  refine wt_o_iload_n hE ww_read_d3 rfl ?_
  refine wt_o_iload_n hE ww_read_d4 rfl ?_
  refine wt_o_callX hE hR (dd := 7) [.int x1, .int x2] wt_lm_lw_66 (wt_g5 165 rfl rfl) wt_ya_ap_read (wp_ap_read_ok htr hD h) (by decide) (hD 0 (by decide)) wt_L0 rfl rfl rfl (Nat.le_of_ble_eq_true rfl) (by decide) ww_read_d5 (fun he => ?_) (fun he => ?_)
  · rcases hx with hx | hx
    · exact absurd hx he
    · rw [hx]
      refine ⟨13, ⟨[], ⟨0, 10, 13, 37⟩, [], "java/util/NoSuchElementException", rfl, (fun z hz => by cases hz), rfl, by decide, (wt_g4 195 rfl rfl), (wt_n4 209 rfl rfl), rfl⟩, fun q9 => ?_⟩
      refine wt_o_astore hE [some (.ref (wt_ad (wt_xw X) 0)), some (.int x1), some (.int x2), some (.ref o), some (.ref q9)] ww_read_d13 (by decide) rfl ?_
      refine wt_o_iconst hE (1 : Int32) ww_read_d15 (by decide) ?_
      exact wt_o_ret hE hR (by decide) ww_read_d16
  refine wt_o_put hE ww_read_d8 ww_read_d9 ?_
  refine wt_o_goto hE 17 ww_read_d10 rfl ?_
  refine wt_o_iconst hE (0 : Int32) ww_read_d17 (by decide) ?_
  exact wt_o_ret hE hR (by decide) ww_read_d18
abbrev wt_y_lw_said : MethodName := ⟨"WornTypeLaw", "said", "(LWornType;II[J)I"⟩
abbrev wt_hh_said : List (Nat × Nat × Nat × Nat) := [(0, 10, 13, 37), (0, 10, 17, 13)]
set_option maxRecDepth 100000 in
theorem wt_cm_said : Cond.codeWith wt_y_lw_said method_26_code 5 (some .int) wt_hh_said ∈ wt_GT := (wt_g6 87 rfl rfl)
def wb602ww_method_26_code_r0 : List (List Nat) := [45, 3, 42, 27, 28, 182, 0, 88, 133, 80, 167, 0, 11, 58, 4, 4, 172, 58, 4, 5, 172, 3, 172] :: []
set_option maxRecDepth 100000 in
theorem wb602ww_method_26_code_c0 : wt_cs method_26_code 0 wb602ww_method_26_code_r0 := wt_cs_of (by decide +kernel)
theorem ww_said_d0 : decode method_26_code 0 = .ok (.aload_n 3, 1) := wt_op45 wb602ww_method_26_code_c0 0 rfl rfl
theorem ww_said_d1 : decode method_26_code 1 = .ok (.iconst 0, 1) := wt_op3 wb602ww_method_26_code_c0 1 rfl rfl
theorem ww_said_d2 : decode method_26_code 2 = .ok (.aload_n 0, 1) := wt_op42 wb602ww_method_26_code_c0 2 rfl rfl
theorem ww_said_d3 : decode method_26_code 3 = .ok (.iload_n 1, 1) := wt_op27 wb602ww_method_26_code_c0 3 rfl rfl
theorem ww_said_d4 : decode method_26_code 4 = .ok (.iload_n 2, 1) := wt_op28 wb602ww_method_26_code_c0 4 rfl rfl
theorem ww_said_d5 : decode method_26_code 5 = .ok (.invokevirtual 88, 3) := wt_op182 wb602ww_method_26_code_c0 5 rfl rfl rfl
theorem ww_said_d8 : decode method_26_code 8 = .ok (.i2l, 1) := wt_op133 wb602ww_method_26_code_c0 8 rfl rfl
theorem ww_said_d9 : decode method_26_code 9 = .ok (.lastore, 1) := wt_op80 wb602ww_method_26_code_c0 9 rfl rfl
theorem ww_said_d10 : decode method_26_code 10 = .ok (.goto 11, 3) := wt_op167 wb602ww_method_26_code_c0 10 rfl rfl rfl
theorem ww_said_d13 : decode method_26_code 13 = .ok (.astore 4, 2) := wt_op58 wb602ww_method_26_code_c0 13 rfl rfl
theorem ww_said_d15 : decode method_26_code 15 = .ok (.iconst 1, 1) := wt_op4 wb602ww_method_26_code_c0 15 rfl rfl
theorem ww_said_d16 : decode method_26_code 16 = .ok (.ireturn, 1) := wt_op172 wb602ww_method_26_code_c0 16 rfl rfl
theorem ww_said_d17 : decode method_26_code 17 = .ok (.astore 4, 2) := wt_op58 wb602ww_method_26_code_c0 17 rfl rfl
theorem ww_said_d19 : decode method_26_code 19 = .ok (.iconst 2, 1) := wt_op5 wb602ww_method_26_code_c0 19 rfl rfl
theorem ww_said_d20 : decode method_26_code 20 = .ok (.ireturn, 1) := wt_op172 wb602ww_method_26_code_c0 20 rfl rfl
theorem ww_said_d21 : decode method_26_code 21 = .ok (.iconst 0, 1) := wt_op3 wb602ww_method_26_code_c0 21 rfl rfl
theorem ww_said_d22 : decode method_26_code 22 = .ok (.ireturn, 1) := wt_op172 wb602ww_method_26_code_c0 22 rfl rfl
set_option maxRecDepth 100000 in
set_option maxHeartbeats 4000000 in
theorem ww_said_ok {l : Launch} (htr : l.stackTraces = false) {w : wt_E} {o : Nat} (hod : ∀ i, wt_dom w i → wt_ad w i ≠ o) (hD : ∀ i, i < 108 → wt_dom w i) {n : Nat} {x1 : Int32} {x2 : Int32} {σ : wt_St} {q : Nat × Int32 × wt_St} (h : wp_ap_said n x1 x2 σ = some q) (hx : q.1 = 0 ∨ q.1 = 2 ∨ q.1 = 1) : wt_CtrW l w o wt_y_lw_said method_26_code 5 wt_hh_said 8 8 [.ref (wt_ad w 0), .int x1, .int x2, .ref o] σ q.2.2 := by
  refine wt_ctrW htr hod (by decide +kernel) wt_cm_said rfl (Nat.le_of_ble_eq_true rfl) [some (.ref (wt_ad w 0)), some (.int x1), some (.int x2), some (.ref o), none] rfl ?_
  intro X hXl hXw hE hR
  subst hXl
  subst hXw
  have hE : wt_OkO X o method_26_code 5 "WornTypeLaw" 8 8 := hE
  refine wt_o_aload_n hE ww_said_d0 rfl ?_
  refine wt_o_iconst hE (0 : Int32) ww_said_d1 (by decide) ?_
  refine wt_o_aload_n hE ww_said_d2 rfl ?_
  refine wt_o_iload_n hE ww_said_d3 rfl ?_
  refine wt_o_iload_n hE ww_said_d4 rfl ?_
  refine wt_o_callX hE hR (dd := 7) [.int x1, .int x2] wt_lm_lw_88 (wt_g6 88 rfl rfl) wt_ya_ap_said (wp_ap_said_ok htr hD h) (by decide) (hD 0 (by decide)) wt_L0 rfl rfl rfl (Nat.le_of_ble_eq_true rfl) (by decide) ww_said_d5 (fun he => ?_) (fun he => ?_)
  · rcases hx with hx | hx | hx
    · exact absurd hx he
    · rw [hx]
      refine ⟨13, ⟨[], ⟨0, 10, 13, 37⟩, [⟨0, 10, 17, 13⟩], "java/util/NoSuchElementException", rfl, (fun z hz => by cases hz), rfl, by decide, (wt_g4 195 rfl rfl), (wt_n4 209 rfl rfl), rfl⟩, fun q9 => ?_⟩
      refine wt_o_astore hE [some (.ref (wt_ad (wt_xw X) 0)), some (.int x1), some (.int x2), some (.ref o), some (.ref q9)] ww_said_d13 (by decide) rfl ?_
      refine wt_o_iconst hE (1 : Int32) ww_said_d15 (by decide) ?_
      exact wt_o_ret hE hR (by decide) ww_said_d16
    · rw [hx]
      refine ⟨17, ⟨[⟨0, 10, 13, 37⟩], ⟨0, 10, 17, 13⟩, [], "java/lang/IllegalArgumentException", rfl, (fun z hz => Or.inr (by cases List.mem_singleton.mp hz; exact ⟨by decide, "java/util/NoSuchElementException", (wt_g4 195 rfl rfl), hR.2.2.2.2.1⟩)), rfl, by decide, (wt_g3 56 rfl rfl), (wt_n3 66 rfl rfl), rfl⟩, fun q9 => ?_⟩
      refine wt_o_astore hE [some (.ref (wt_ad (wt_xw X) 0)), some (.int x1), some (.int x2), some (.ref o), some (.ref q9)] ww_said_d17 (by decide) rfl ?_
      refine wt_o_iconst hE (2 : Int32) ww_said_d19 (by decide) ?_
      exact wt_o_ret hE hR (by decide) ww_said_d20
  refine wt_o_put hE ww_said_d8 ww_said_d9 ?_
  refine wt_o_goto hE 21 ww_said_d10 rfl ?_
  refine wt_o_iconst hE (0 : Int32) ww_said_d21 (by decide) ?_
  exact wt_o_ret hE hR (by decide) ww_said_d22
abbrev wt_y_lw_set : MethodName := ⟨"WornTypeLaw", "set", "(LWornType;II[J)I"⟩
abbrev wt_hh_set : List (Nat × Nat × Nat × Nat) := [(0, 10, 13, 37), (0, 10, 17, 13)]
set_option maxRecDepth 100000 in
theorem wt_cm_set : Cond.codeWith wt_y_lw_set method_15_code 5 (some .int) wt_hh_set ∈ wt_GT := (wt_g5 68 rfl rfl)
def wb602ww_method_15_code_r0 : List (List Nat) := [45, 3, 42, 27, 28, 182, 0, 54, 133, 80, 167, 0, 11, 58, 4, 4, 172, 58, 4, 5, 172, 3, 172] :: []
set_option maxRecDepth 100000 in
theorem wb602ww_method_15_code_c0 : wt_cs method_15_code 0 wb602ww_method_15_code_r0 := wt_cs_of (by decide +kernel)
theorem ww_set_d0 : decode method_15_code 0 = .ok (.aload_n 3, 1) := wt_op45 wb602ww_method_15_code_c0 0 rfl rfl
theorem ww_set_d1 : decode method_15_code 1 = .ok (.iconst 0, 1) := wt_op3 wb602ww_method_15_code_c0 1 rfl rfl
theorem ww_set_d2 : decode method_15_code 2 = .ok (.aload_n 0, 1) := wt_op42 wb602ww_method_15_code_c0 2 rfl rfl
theorem ww_set_d3 : decode method_15_code 3 = .ok (.iload_n 1, 1) := wt_op27 wb602ww_method_15_code_c0 3 rfl rfl
theorem ww_set_d4 : decode method_15_code 4 = .ok (.iload_n 2, 1) := wt_op28 wb602ww_method_15_code_c0 4 rfl rfl
theorem ww_set_d5 : decode method_15_code 5 = .ok (.invokevirtual 54, 3) := wt_op182 wb602ww_method_15_code_c0 5 rfl rfl rfl
theorem ww_set_d8 : decode method_15_code 8 = .ok (.i2l, 1) := wt_op133 wb602ww_method_15_code_c0 8 rfl rfl
theorem ww_set_d9 : decode method_15_code 9 = .ok (.lastore, 1) := wt_op80 wb602ww_method_15_code_c0 9 rfl rfl
theorem ww_set_d10 : decode method_15_code 10 = .ok (.goto 11, 3) := wt_op167 wb602ww_method_15_code_c0 10 rfl rfl rfl
theorem ww_set_d13 : decode method_15_code 13 = .ok (.astore 4, 2) := wt_op58 wb602ww_method_15_code_c0 13 rfl rfl
theorem ww_set_d15 : decode method_15_code 15 = .ok (.iconst 1, 1) := wt_op4 wb602ww_method_15_code_c0 15 rfl rfl
theorem ww_set_d16 : decode method_15_code 16 = .ok (.ireturn, 1) := wt_op172 wb602ww_method_15_code_c0 16 rfl rfl
theorem ww_set_d17 : decode method_15_code 17 = .ok (.astore 4, 2) := wt_op58 wb602ww_method_15_code_c0 17 rfl rfl
theorem ww_set_d19 : decode method_15_code 19 = .ok (.iconst 2, 1) := wt_op5 wb602ww_method_15_code_c0 19 rfl rfl
theorem ww_set_d20 : decode method_15_code 20 = .ok (.ireturn, 1) := wt_op172 wb602ww_method_15_code_c0 20 rfl rfl
theorem ww_set_d21 : decode method_15_code 21 = .ok (.iconst 0, 1) := wt_op3 wb602ww_method_15_code_c0 21 rfl rfl
theorem ww_set_d22 : decode method_15_code 22 = .ok (.ireturn, 1) := wt_op172 wb602ww_method_15_code_c0 22 rfl rfl
set_option maxRecDepth 100000 in
set_option maxHeartbeats 4000000 in
theorem ww_set_ok {l : Launch} (htr : l.stackTraces = false) {w : wt_E} {o : Nat} (hod : ∀ i, wt_dom w i → wt_ad w i ≠ o) (hD : ∀ i, i < 108 → wt_dom w i) {n : Nat} {x1 : Int32} {x2 : Int32} {σ : wt_St} {q : Nat × Int32 × wt_St} (h : wp_ap_set n x1 x2 σ = some q) (hx : q.1 = 0 ∨ q.1 = 2 ∨ q.1 = 1) : wt_CtrW l w o wt_y_lw_set method_15_code 5 wt_hh_set 9 8 [.ref (wt_ad w 0), .int x1, .int x2, .ref o] σ q.2.2 := by
  refine wt_ctrW htr hod (by decide +kernel) wt_cm_set rfl (Nat.le_of_ble_eq_true rfl) [some (.ref (wt_ad w 0)), some (.int x1), some (.int x2), some (.ref o), none] rfl ?_
  intro X hXl hXw hE hR
  subst hXl
  subst hXw
  have hE : wt_OkO X o method_15_code 5 "WornTypeLaw" 9 8 := hE
  refine wt_o_aload_n hE ww_set_d0 rfl ?_
  refine wt_o_iconst hE (0 : Int32) ww_set_d1 (by decide) ?_
  refine wt_o_aload_n hE ww_set_d2 rfl ?_
  refine wt_o_iload_n hE ww_set_d3 rfl ?_
  refine wt_o_iload_n hE ww_set_d4 rfl ?_
  refine wt_o_callX hE hR (dd := 8) [.int x1, .int x2] wt_lm_lw_54 (wt_g5 69 rfl rfl) wt_ya_ap_set (wp_ap_set_ok htr hD h) (by decide) (hD 0 (by decide)) wt_L0 rfl rfl rfl (Nat.le_of_ble_eq_true rfl) (by decide) ww_set_d5 (fun he => ?_) (fun he => ?_)
  · rcases hx with hx | hx | hx
    · exact absurd hx he
    · rw [hx]
      refine ⟨13, ⟨[], ⟨0, 10, 13, 37⟩, [⟨0, 10, 17, 13⟩], "java/util/NoSuchElementException", rfl, (fun z hz => by cases hz), rfl, by decide, (wt_g4 195 rfl rfl), (wt_n4 209 rfl rfl), rfl⟩, fun q9 => ?_⟩
      refine wt_o_astore hE [some (.ref (wt_ad (wt_xw X) 0)), some (.int x1), some (.int x2), some (.ref o), some (.ref q9)] ww_set_d13 (by decide) rfl ?_
      refine wt_o_iconst hE (1 : Int32) ww_set_d15 (by decide) ?_
      exact wt_o_ret hE hR (by decide) ww_set_d16
    · rw [hx]
      refine ⟨17, ⟨[⟨0, 10, 13, 37⟩], ⟨0, 10, 17, 13⟩, [], "java/lang/IllegalArgumentException", rfl, (fun z hz => Or.inr (by cases List.mem_singleton.mp hz; exact ⟨by decide, "java/util/NoSuchElementException", (wt_g4 195 rfl rfl), hR.2.2.2.2.1⟩)), rfl, by decide, (wt_g3 56 rfl rfl), (wt_n3 66 rfl rfl), rfl⟩, fun q9 => ?_⟩
      refine wt_o_astore hE [some (.ref (wt_ad (wt_xw X) 0)), some (.int x1), some (.int x2), some (.ref o), some (.ref q9)] ww_set_d17 (by decide) rfl ?_
      refine wt_o_iconst hE (2 : Int32) ww_set_d19 (by decide) ?_
      exact wt_o_ret hE hR (by decide) ww_set_d20
  refine wt_o_put hE ww_set_d8 ww_set_d9 ?_
  refine wt_o_goto hE 21 ww_set_d10 rfl ?_
  refine wt_o_iconst hE (0 : Int32) ww_set_d21 (by decide) ?_
  exact wt_o_ret hE hR (by decide) ww_set_d22
abbrev wt_y_lw_text : MethodName := ⟨"WornTypeLaw", "text", "(LWornType;I[J)I"⟩
abbrev wt_hh_text : List (Nat × Nat × Nat × Nat) := [(0, 9, 12, 13)]
set_option maxRecDepth 100000 in
theorem wt_cm_text : Cond.codeWith wt_y_lw_text method_5_code 4 (some .int) wt_hh_text ∈ wt_GT := (wt_g4 94 rfl rfl)
def wb602ww_method_5_code_r0 : List (List Nat) := [44, 3, 42, 27, 182, 0, 18, 133, 80, 167, 0, 6, 78, 4, 172, 3, 172] :: []
set_option maxRecDepth 100000 in
theorem wb602ww_method_5_code_c0 : wt_cs method_5_code 0 wb602ww_method_5_code_r0 := wt_cs_of (by decide +kernel)
theorem ww_text_d0 : decode method_5_code 0 = .ok (.aload_n 2, 1) := wt_op44 wb602ww_method_5_code_c0 0 rfl rfl
theorem ww_text_d1 : decode method_5_code 1 = .ok (.iconst 0, 1) := wt_op3 wb602ww_method_5_code_c0 1 rfl rfl
theorem ww_text_d2 : decode method_5_code 2 = .ok (.aload_n 0, 1) := wt_op42 wb602ww_method_5_code_c0 2 rfl rfl
theorem ww_text_d3 : decode method_5_code 3 = .ok (.iload_n 1, 1) := wt_op27 wb602ww_method_5_code_c0 3 rfl rfl
theorem ww_text_d4 : decode method_5_code 4 = .ok (.invokevirtual 18, 3) := wt_op182 wb602ww_method_5_code_c0 4 rfl rfl rfl
theorem ww_text_d7 : decode method_5_code 7 = .ok (.i2l, 1) := wt_op133 wb602ww_method_5_code_c0 7 rfl rfl
theorem ww_text_d8 : decode method_5_code 8 = .ok (.lastore, 1) := wt_op80 wb602ww_method_5_code_c0 8 rfl rfl
theorem ww_text_d9 : decode method_5_code 9 = .ok (.goto 6, 3) := wt_op167 wb602ww_method_5_code_c0 9 rfl rfl rfl
theorem ww_text_d12 : decode method_5_code 12 = .ok (.astore_n 3, 1) := wt_op78 wb602ww_method_5_code_c0 12 rfl rfl
theorem ww_text_d13 : decode method_5_code 13 = .ok (.iconst 1, 1) := wt_op4 wb602ww_method_5_code_c0 13 rfl rfl
theorem ww_text_d14 : decode method_5_code 14 = .ok (.ireturn, 1) := wt_op172 wb602ww_method_5_code_c0 14 rfl rfl
theorem ww_text_d15 : decode method_5_code 15 = .ok (.iconst 0, 1) := wt_op3 wb602ww_method_5_code_c0 15 rfl rfl
theorem ww_text_d16 : decode method_5_code 16 = .ok (.ireturn, 1) := wt_op172 wb602ww_method_5_code_c0 16 rfl rfl
set_option maxRecDepth 100000 in
set_option maxHeartbeats 4000000 in
theorem ww_text_ok {l : Launch} (htr : l.stackTraces = false) {w : wt_E} {o : Nat} (hod : ∀ i, wt_dom w i → wt_ad w i ≠ o) (hD : ∀ i, i < 108 → wt_dom w i) {n : Nat} {x1 : Int32} {σ : wt_St} {q : Nat × Int32 × wt_St} (h : wp_ap_text n x1 σ = some q) (hx : q.1 = 0 ∨ q.1 = 1) : wt_CtrW l w o wt_y_lw_text method_5_code 4 wt_hh_text 8 8 [.ref (wt_ad w 0), .int x1, .ref o] σ q.2.2 := by
  refine wt_ctrW htr hod (by decide +kernel) wt_cm_text rfl (Nat.le_of_ble_eq_true rfl) [some (.ref (wt_ad w 0)), some (.int x1), some (.ref o), none] rfl ?_
  intro X hXl hXw hE hR
  subst hXl
  subst hXw
  have hE : wt_OkO X o method_5_code 4 "WornTypeLaw" 8 8 := hE
  refine wt_o_aload_n hE ww_text_d0 rfl ?_
  refine wt_o_iconst hE (0 : Int32) ww_text_d1 (by decide) ?_
  refine wt_o_aload_n hE ww_text_d2 rfl ?_
  refine wt_o_iload_n hE ww_text_d3 rfl ?_
  refine wt_o_callX hE hR (dd := 7) [.int x1] wt_lm_lw_18 (wt_g4 95 rfl rfl) wt_ya_ap_text (wp_ap_text_ok htr hD h) (by decide) (hD 0 (by decide)) wt_L0 rfl rfl rfl (Nat.le_of_ble_eq_true rfl) (by decide) ww_text_d4 (fun he => ?_) (fun he => ?_)
  · rcases hx with hx | hx
    · exact absurd hx he
    · rw [hx]
      refine ⟨12, ⟨[], ⟨0, 9, 12, 13⟩, [], "java/lang/IllegalArgumentException", rfl, (fun z hz => by cases hz), rfl, by decide, (wt_g3 56 rfl rfl), (wt_n3 66 rfl rfl), rfl⟩, fun q9 => ?_⟩
      refine wt_o_astore_n hE [some (.ref (wt_ad (wt_xw X) 0)), some (.int x1), some (.ref o), some (.ref q9)] ww_text_d12 (by decide) rfl ?_
      refine wt_o_iconst hE (1 : Int32) ww_text_d13 (by decide) ?_
      exact wt_o_ret hE hR (by decide) ww_text_d14
  refine wt_o_put hE ww_text_d7 ww_text_d8 ?_
  refine wt_o_goto hE 15 ww_text_d9 rfl ?_
  refine wt_o_iconst hE (0 : Int32) ww_text_d15 (by decide) ?_
  exact wt_o_ret hE hR (by decide) ww_text_d16
abbrev wt_y_lw_together : MethodName := ⟨"WornTypeLaw", "together", "(LWornType;I[J)I"⟩
abbrev wt_hh_together : List (Nat × Nat × Nat × Nat) := [(0, 9, 12, 13)]
set_option maxRecDepth 100000 in
theorem wt_cm_together : Cond.codeWith wt_y_lw_together method_31_code 4 (some .int) wt_hh_together ∈ wt_GT := (wt_g6 173 rfl rfl)
def wb602ww_method_31_code_r0 : List (List Nat) := [44, 3, 42, 27, 182, 0, 103, 133, 80, 167, 0, 6, 78, 4, 172, 3, 172] :: []
set_option maxRecDepth 100000 in
theorem wb602ww_method_31_code_c0 : wt_cs method_31_code 0 wb602ww_method_31_code_r0 := wt_cs_of (by decide +kernel)
theorem ww_together_d0 : decode method_31_code 0 = .ok (.aload_n 2, 1) := wt_op44 wb602ww_method_31_code_c0 0 rfl rfl
theorem ww_together_d1 : decode method_31_code 1 = .ok (.iconst 0, 1) := wt_op3 wb602ww_method_31_code_c0 1 rfl rfl
theorem ww_together_d2 : decode method_31_code 2 = .ok (.aload_n 0, 1) := wt_op42 wb602ww_method_31_code_c0 2 rfl rfl
theorem ww_together_d3 : decode method_31_code 3 = .ok (.iload_n 1, 1) := wt_op27 wb602ww_method_31_code_c0 3 rfl rfl
theorem ww_together_d4 : decode method_31_code 4 = .ok (.invokevirtual 103, 3) := wt_op182 wb602ww_method_31_code_c0 4 rfl rfl rfl
theorem ww_together_d7 : decode method_31_code 7 = .ok (.i2l, 1) := wt_op133 wb602ww_method_31_code_c0 7 rfl rfl
theorem ww_together_d8 : decode method_31_code 8 = .ok (.lastore, 1) := wt_op80 wb602ww_method_31_code_c0 8 rfl rfl
theorem ww_together_d9 : decode method_31_code 9 = .ok (.goto 6, 3) := wt_op167 wb602ww_method_31_code_c0 9 rfl rfl rfl
theorem ww_together_d12 : decode method_31_code 12 = .ok (.astore_n 3, 1) := wt_op78 wb602ww_method_31_code_c0 12 rfl rfl
theorem ww_together_d13 : decode method_31_code 13 = .ok (.iconst 1, 1) := wt_op4 wb602ww_method_31_code_c0 13 rfl rfl
theorem ww_together_d14 : decode method_31_code 14 = .ok (.ireturn, 1) := wt_op172 wb602ww_method_31_code_c0 14 rfl rfl
theorem ww_together_d15 : decode method_31_code 15 = .ok (.iconst 0, 1) := wt_op3 wb602ww_method_31_code_c0 15 rfl rfl
theorem ww_together_d16 : decode method_31_code 16 = .ok (.ireturn, 1) := wt_op172 wb602ww_method_31_code_c0 16 rfl rfl
set_option maxRecDepth 100000 in
set_option maxHeartbeats 4000000 in
theorem ww_together_ok {l : Launch} (htr : l.stackTraces = false) {w : wt_E} {o : Nat} (hod : ∀ i, wt_dom w i → wt_ad w i ≠ o) (hD : ∀ i, i < 108 → wt_dom w i) {n : Nat} {x1 : Int32} {σ : wt_St} {q : Nat × Int32 × wt_St} (h : wp_ap_together n x1 σ = some q) (hx : q.1 = 0 ∨ q.1 = 1) : wt_CtrW l w o wt_y_lw_together method_31_code 4 wt_hh_together 9 8 [.ref (wt_ad w 0), .int x1, .ref o] σ q.2.2 := by
  refine wt_ctrW htr hod (by decide +kernel) wt_cm_together rfl (Nat.le_of_ble_eq_true rfl) [some (.ref (wt_ad w 0)), some (.int x1), some (.ref o), none] rfl ?_
  intro X hXl hXw hE hR
  subst hXl
  subst hXw
  have hE : wt_OkO X o method_31_code 4 "WornTypeLaw" 9 8 := hE
  refine wt_o_aload_n hE ww_together_d0 rfl ?_
  refine wt_o_iconst hE (0 : Int32) ww_together_d1 (by decide) ?_
  refine wt_o_aload_n hE ww_together_d2 rfl ?_
  refine wt_o_iload_n hE ww_together_d3 rfl ?_
  refine wt_o_callX hE hR (dd := 8) [.int x1] wt_lm_lw_103 (wt_g6 174 rfl rfl) wt_ya_ap_together (wp_ap_together_ok htr hD h) (by decide) (hD 0 (by decide)) wt_L0 rfl rfl rfl (Nat.le_of_ble_eq_true rfl) (by decide) ww_together_d4 (fun he => ?_) (fun he => ?_)
  · rcases hx with hx | hx
    · exact absurd hx he
    · rw [hx]
      refine ⟨12, ⟨[], ⟨0, 9, 12, 13⟩, [], "java/lang/IllegalArgumentException", rfl, (fun z hz => by cases hz), rfl, by decide, (wt_g3 56 rfl rfl), (wt_n3 66 rfl rfl), rfl⟩, fun q9 => ?_⟩
      refine wt_o_astore_n hE [some (.ref (wt_ad (wt_xw X) 0)), some (.int x1), some (.ref o), some (.ref q9)] ww_together_d12 (by decide) rfl ?_
      refine wt_o_iconst hE (1 : Int32) ww_together_d13 (by decide) ?_
      exact wt_o_ret hE hR (by decide) ww_together_d14
  refine wt_o_put hE ww_together_d7 ww_together_d8 ?_
  refine wt_o_goto hE 15 ww_together_d9 rfl ?_
  refine wt_o_iconst hE (0 : Int32) ww_together_d15 (by decide) ?_
  exact wt_o_ret hE hR (by decide) ww_together_d16
abbrev wt_y_lw_told : MethodName := ⟨"WornTypeLaw", "told", "(LWornType;I[J)I"⟩
abbrev wt_hh_told : List (Nat × Nat × Nat × Nat) := [(0, 9, 12, 13)]
set_option maxRecDepth 100000 in
theorem wt_cm_told : Cond.codeWith wt_y_lw_told method_6_code 4 (some .int) wt_hh_told ∈ wt_GT := (wt_g4 120 rfl rfl)
def wb602ww_method_6_code_r0 : List (List Nat) := [44, 3, 42, 27, 182, 0, 21, 133, 80, 167, 0, 6, 78, 4, 172, 3, 172] :: []
set_option maxRecDepth 100000 in
theorem wb602ww_method_6_code_c0 : wt_cs method_6_code 0 wb602ww_method_6_code_r0 := wt_cs_of (by decide +kernel)
theorem ww_told_d0 : decode method_6_code 0 = .ok (.aload_n 2, 1) := wt_op44 wb602ww_method_6_code_c0 0 rfl rfl
theorem ww_told_d1 : decode method_6_code 1 = .ok (.iconst 0, 1) := wt_op3 wb602ww_method_6_code_c0 1 rfl rfl
theorem ww_told_d2 : decode method_6_code 2 = .ok (.aload_n 0, 1) := wt_op42 wb602ww_method_6_code_c0 2 rfl rfl
theorem ww_told_d3 : decode method_6_code 3 = .ok (.iload_n 1, 1) := wt_op27 wb602ww_method_6_code_c0 3 rfl rfl
theorem ww_told_d4 : decode method_6_code 4 = .ok (.invokevirtual 21, 3) := wt_op182 wb602ww_method_6_code_c0 4 rfl rfl rfl
theorem ww_told_d7 : decode method_6_code 7 = .ok (.i2l, 1) := wt_op133 wb602ww_method_6_code_c0 7 rfl rfl
theorem ww_told_d8 : decode method_6_code 8 = .ok (.lastore, 1) := wt_op80 wb602ww_method_6_code_c0 8 rfl rfl
theorem ww_told_d9 : decode method_6_code 9 = .ok (.goto 6, 3) := wt_op167 wb602ww_method_6_code_c0 9 rfl rfl rfl
theorem ww_told_d12 : decode method_6_code 12 = .ok (.astore_n 3, 1) := wt_op78 wb602ww_method_6_code_c0 12 rfl rfl
theorem ww_told_d13 : decode method_6_code 13 = .ok (.iconst 1, 1) := wt_op4 wb602ww_method_6_code_c0 13 rfl rfl
theorem ww_told_d14 : decode method_6_code 14 = .ok (.ireturn, 1) := wt_op172 wb602ww_method_6_code_c0 14 rfl rfl
theorem ww_told_d15 : decode method_6_code 15 = .ok (.iconst 0, 1) := wt_op3 wb602ww_method_6_code_c0 15 rfl rfl
theorem ww_told_d16 : decode method_6_code 16 = .ok (.ireturn, 1) := wt_op172 wb602ww_method_6_code_c0 16 rfl rfl
set_option maxRecDepth 100000 in
set_option maxHeartbeats 4000000 in
theorem ww_told_ok {l : Launch} (htr : l.stackTraces = false) {w : wt_E} {o : Nat} (hod : ∀ i, wt_dom w i → wt_ad w i ≠ o) (hD : ∀ i, i < 108 → wt_dom w i) {n : Nat} {x1 : Int32} {σ : wt_St} {q : Nat × Int32 × wt_St} (h : wp_ap_told n x1 σ = some q) (hx : q.1 = 0 ∨ q.1 = 1) : wt_CtrW l w o wt_y_lw_told method_6_code 4 wt_hh_told 7 8 [.ref (wt_ad w 0), .int x1, .ref o] σ q.2.2 := by
  refine wt_ctrW htr hod (by decide +kernel) wt_cm_told rfl (Nat.le_of_ble_eq_true rfl) [some (.ref (wt_ad w 0)), some (.int x1), some (.ref o), none] rfl ?_
  intro X hXl hXw hE hR
  subst hXl
  subst hXw
  have hE : wt_OkO X o method_6_code 4 "WornTypeLaw" 7 8 := hE
  refine wt_o_aload_n hE ww_told_d0 rfl ?_
  refine wt_o_iconst hE (0 : Int32) ww_told_d1 (by decide) ?_
  refine wt_o_aload_n hE ww_told_d2 rfl ?_
  refine wt_o_iload_n hE ww_told_d3 rfl ?_
  refine wt_o_callX hE hR (dd := 6) [.int x1] wt_lm_lw_21 (wt_g4 121 rfl rfl) wt_ya_ap_told (wp_ap_told_ok htr hD h) (by decide) (hD 0 (by decide)) wt_L0 rfl rfl rfl (Nat.le_of_ble_eq_true rfl) (by decide) ww_told_d4 (fun he => ?_) (fun he => ?_)
  · rcases hx with hx | hx
    · exact absurd hx he
    · rw [hx]
      refine ⟨12, ⟨[], ⟨0, 9, 12, 13⟩, [], "java/lang/IllegalArgumentException", rfl, (fun z hz => by cases hz), rfl, by decide, (wt_g3 56 rfl rfl), (wt_n3 66 rfl rfl), rfl⟩, fun q9 => ?_⟩
      refine wt_o_astore_n hE [some (.ref (wt_ad (wt_xw X) 0)), some (.int x1), some (.ref o), some (.ref q9)] ww_told_d12 (by decide) rfl ?_
      refine wt_o_iconst hE (1 : Int32) ww_told_d13 (by decide) ?_
      exact wt_o_ret hE hR (by decide) ww_told_d14
  refine wt_o_put hE ww_told_d7 ww_told_d8 ?_
  refine wt_o_goto hE 15 ww_told_d9 rfl ?_
  refine wt_o_iconst hE (0 : Int32) ww_told_d15 (by decide) ?_
  exact wt_o_ret hE hR (by decide) ww_told_d16
abbrev wt_y_lw_tongue : MethodName := ⟨"WornTypeLaw", "tongue", "(LWornType;I[J)I"⟩
abbrev wt_hh_tongue : List (Nat × Nat × Nat × Nat) := [(0, 9, 12, 13)]
set_option maxRecDepth 100000 in
theorem wt_cm_tongue : Cond.codeWith wt_y_lw_tongue method_4_code 4 (some .int) wt_hh_tongue ∈ wt_GT := (wt_g4 48 rfl rfl)
def wb602ww_method_4_code_r0 : List (List Nat) := [44, 3, 42, 27, 182, 0, 15, 133, 80, 167, 0, 6, 78, 4, 172, 3, 172] :: []
set_option maxRecDepth 100000 in
theorem wb602ww_method_4_code_c0 : wt_cs method_4_code 0 wb602ww_method_4_code_r0 := wt_cs_of (by decide +kernel)
theorem ww_tongue_d0 : decode method_4_code 0 = .ok (.aload_n 2, 1) := wt_op44 wb602ww_method_4_code_c0 0 rfl rfl
theorem ww_tongue_d1 : decode method_4_code 1 = .ok (.iconst 0, 1) := wt_op3 wb602ww_method_4_code_c0 1 rfl rfl
theorem ww_tongue_d2 : decode method_4_code 2 = .ok (.aload_n 0, 1) := wt_op42 wb602ww_method_4_code_c0 2 rfl rfl
theorem ww_tongue_d3 : decode method_4_code 3 = .ok (.iload_n 1, 1) := wt_op27 wb602ww_method_4_code_c0 3 rfl rfl
theorem ww_tongue_d4 : decode method_4_code 4 = .ok (.invokevirtual 15, 3) := wt_op182 wb602ww_method_4_code_c0 4 rfl rfl rfl
theorem ww_tongue_d7 : decode method_4_code 7 = .ok (.i2l, 1) := wt_op133 wb602ww_method_4_code_c0 7 rfl rfl
theorem ww_tongue_d8 : decode method_4_code 8 = .ok (.lastore, 1) := wt_op80 wb602ww_method_4_code_c0 8 rfl rfl
theorem ww_tongue_d9 : decode method_4_code 9 = .ok (.goto 6, 3) := wt_op167 wb602ww_method_4_code_c0 9 rfl rfl rfl
theorem ww_tongue_d12 : decode method_4_code 12 = .ok (.astore_n 3, 1) := wt_op78 wb602ww_method_4_code_c0 12 rfl rfl
theorem ww_tongue_d13 : decode method_4_code 13 = .ok (.iconst 1, 1) := wt_op4 wb602ww_method_4_code_c0 13 rfl rfl
theorem ww_tongue_d14 : decode method_4_code 14 = .ok (.ireturn, 1) := wt_op172 wb602ww_method_4_code_c0 14 rfl rfl
theorem ww_tongue_d15 : decode method_4_code 15 = .ok (.iconst 0, 1) := wt_op3 wb602ww_method_4_code_c0 15 rfl rfl
theorem ww_tongue_d16 : decode method_4_code 16 = .ok (.ireturn, 1) := wt_op172 wb602ww_method_4_code_c0 16 rfl rfl
set_option maxRecDepth 100000 in
set_option maxHeartbeats 4000000 in
theorem ww_tongue_ok {l : Launch} (htr : l.stackTraces = false) {w : wt_E} {o : Nat} (hod : ∀ i, wt_dom w i → wt_ad w i ≠ o) (hD : ∀ i, i < 108 → wt_dom w i) {n : Nat} {x1 : Int32} {σ : wt_St} {q : Nat × Int32 × wt_St} (h : wp_ap_tongue n x1 σ = some q) (hx : q.1 = 0 ∨ q.1 = 1) : wt_CtrW l w o wt_y_lw_tongue method_4_code 4 wt_hh_tongue 8 8 [.ref (wt_ad w 0), .int x1, .ref o] σ q.2.2 := by
  refine wt_ctrW htr hod (by decide +kernel) wt_cm_tongue rfl (Nat.le_of_ble_eq_true rfl) [some (.ref (wt_ad w 0)), some (.int x1), some (.ref o), none] rfl ?_
  intro X hXl hXw hE hR
  subst hXl
  subst hXw
  have hE : wt_OkO X o method_4_code 4 "WornTypeLaw" 8 8 := hE
  refine wt_o_aload_n hE ww_tongue_d0 rfl ?_
  refine wt_o_iconst hE (0 : Int32) ww_tongue_d1 (by decide) ?_
  refine wt_o_aload_n hE ww_tongue_d2 rfl ?_
  refine wt_o_iload_n hE ww_tongue_d3 rfl ?_
  refine wt_o_callX hE hR (dd := 7) [.int x1] wt_lm_lw_15 (wt_g4 49 rfl rfl) wt_ya_ap_tongue (wp_ap_tongue_ok htr hD h) (by decide) (hD 0 (by decide)) wt_L0 rfl rfl rfl (Nat.le_of_ble_eq_true rfl) (by decide) ww_tongue_d4 (fun he => ?_) (fun he => ?_)
  · rcases hx with hx | hx
    · exact absurd hx he
    · rw [hx]
      refine ⟨12, ⟨[], ⟨0, 9, 12, 13⟩, [], "java/lang/IllegalArgumentException", rfl, (fun z hz => by cases hz), rfl, by decide, (wt_g3 56 rfl rfl), (wt_n3 66 rfl rfl), rfl⟩, fun q9 => ?_⟩
      refine wt_o_astore_n hE [some (.ref (wt_ad (wt_xw X) 0)), some (.int x1), some (.ref o), some (.ref q9)] ww_tongue_d12 (by decide) rfl ?_
      refine wt_o_iconst hE (1 : Int32) ww_tongue_d13 (by decide) ?_
      exact wt_o_ret hE hR (by decide) ww_tongue_d14
  refine wt_o_put hE ww_tongue_d7 ww_tongue_d8 ?_
  refine wt_o_goto hE 15 ww_tongue_d9 rfl ?_
  refine wt_o_iconst hE (0 : Int32) ww_tongue_d15 (by decide) ?_
  exact wt_o_ret hE hR (by decide) ww_tongue_d16
abbrev wt_y_lw_want : MethodName := ⟨"WornTypeLaw", "want", "(LWornType;IIII[J)I"⟩
abbrev wt_hh_want : List (Nat × Nat × Nat × Nat) := [(0, 14, 17, 37), (0, 14, 21, 13)]
set_option maxRecDepth 100000 in
theorem wt_cm_want : Cond.codeWith wt_y_lw_want method_23_code 7 (some .int) wt_hh_want ∈ wt_GT := (wt_g6 21 rfl rfl)
def wb602ww_method_23_code_r0 : List (List Nat) := [25, 5, 3, 42, 27, 28, 29, 21, 4, 182, 0, 79, 133, 80, 167, 0, 11, 58, 6, 4, 172, 58, 6, 5, 172, 3, 172] :: []
set_option maxRecDepth 100000 in
theorem wb602ww_method_23_code_c0 : wt_cs method_23_code 0 wb602ww_method_23_code_r0 := wt_cs_of (by decide +kernel)
theorem ww_want_d0 : decode method_23_code 0 = .ok (.aload 5, 2) := wt_op25 wb602ww_method_23_code_c0 0 rfl rfl
theorem ww_want_d2 : decode method_23_code 2 = .ok (.iconst 0, 1) := wt_op3 wb602ww_method_23_code_c0 2 rfl rfl
theorem ww_want_d3 : decode method_23_code 3 = .ok (.aload_n 0, 1) := wt_op42 wb602ww_method_23_code_c0 3 rfl rfl
theorem ww_want_d4 : decode method_23_code 4 = .ok (.iload_n 1, 1) := wt_op27 wb602ww_method_23_code_c0 4 rfl rfl
theorem ww_want_d5 : decode method_23_code 5 = .ok (.iload_n 2, 1) := wt_op28 wb602ww_method_23_code_c0 5 rfl rfl
theorem ww_want_d6 : decode method_23_code 6 = .ok (.iload_n 3, 1) := wt_op29 wb602ww_method_23_code_c0 6 rfl rfl
theorem ww_want_d7 : decode method_23_code 7 = .ok (.iload 4, 2) := wt_op21 wb602ww_method_23_code_c0 7 rfl rfl
theorem ww_want_d9 : decode method_23_code 9 = .ok (.invokevirtual 79, 3) := wt_op182 wb602ww_method_23_code_c0 9 rfl rfl rfl
theorem ww_want_d12 : decode method_23_code 12 = .ok (.i2l, 1) := wt_op133 wb602ww_method_23_code_c0 12 rfl rfl
theorem ww_want_d13 : decode method_23_code 13 = .ok (.lastore, 1) := wt_op80 wb602ww_method_23_code_c0 13 rfl rfl
theorem ww_want_d14 : decode method_23_code 14 = .ok (.goto 11, 3) := wt_op167 wb602ww_method_23_code_c0 14 rfl rfl rfl
theorem ww_want_d17 : decode method_23_code 17 = .ok (.astore 6, 2) := wt_op58 wb602ww_method_23_code_c0 17 rfl rfl
theorem ww_want_d19 : decode method_23_code 19 = .ok (.iconst 1, 1) := wt_op4 wb602ww_method_23_code_c0 19 rfl rfl
theorem ww_want_d20 : decode method_23_code 20 = .ok (.ireturn, 1) := wt_op172 wb602ww_method_23_code_c0 20 rfl rfl
theorem ww_want_d21 : decode method_23_code 21 = .ok (.astore 6, 2) := wt_op58 wb602ww_method_23_code_c0 21 rfl rfl
theorem ww_want_d23 : decode method_23_code 23 = .ok (.iconst 2, 1) := wt_op5 wb602ww_method_23_code_c0 23 rfl rfl
theorem ww_want_d24 : decode method_23_code 24 = .ok (.ireturn, 1) := wt_op172 wb602ww_method_23_code_c0 24 rfl rfl
theorem ww_want_d25 : decode method_23_code 25 = .ok (.iconst 0, 1) := wt_op3 wb602ww_method_23_code_c0 25 rfl rfl
theorem ww_want_d26 : decode method_23_code 26 = .ok (.ireturn, 1) := wt_op172 wb602ww_method_23_code_c0 26 rfl rfl
set_option maxRecDepth 100000 in
set_option maxHeartbeats 4000000 in
theorem ww_want_ok {l : Launch} (htr : l.stackTraces = false) {w : wt_E} {o : Nat} (hod : ∀ i, wt_dom w i → wt_ad w i ≠ o) (hD : ∀ i, i < 108 → wt_dom w i) {n : Nat} {x1 : Int32} {x2 : Int32} {x3 : Int32} {x4 : Int32} {σ : wt_St} {q : Nat × Int32 × wt_St} (h : wp_ap_want n x1 x2 x3 x4 σ = some q) (hx : q.1 = 0 ∨ q.1 = 2 ∨ q.1 = 1) : wt_CtrW l w o wt_y_lw_want method_23_code 7 wt_hh_want 9 8 [.ref (wt_ad w 0), .int x1, .int x2, .int x3, .int x4, .ref o] σ q.2.2 := by
  refine wt_ctrW htr hod (by decide +kernel) wt_cm_want rfl (Nat.le_of_ble_eq_true rfl) [some (.ref (wt_ad w 0)), some (.int x1), some (.int x2), some (.int x3), some (.int x4), some (.ref o), none] rfl ?_
  intro X hXl hXw hE hR
  subst hXl
  subst hXw
  have hE : wt_OkO X o method_23_code 7 "WornTypeLaw" 9 8 := hE
  refine wt_o_aload hE ww_want_d0 rfl ?_
  refine wt_o_iconst hE (0 : Int32) ww_want_d2 (by decide) ?_
  refine wt_o_aload_n hE ww_want_d3 rfl ?_
  refine wt_o_iload_n hE ww_want_d4 rfl ?_
  refine wt_o_iload_n hE ww_want_d5 rfl ?_
  refine wt_o_iload_n hE ww_want_d6 rfl ?_
  refine wt_o_iload hE ww_want_d7 rfl ?_
  refine wt_o_callX hE hR (dd := 8) [.int x1, .int x2, .int x3, .int x4] wt_lm_lw_79 (wt_g6 22 rfl rfl) wt_ya_ap_want (wp_ap_want_ok htr hD h) (by decide) (hD 0 (by decide)) wt_L0 rfl rfl rfl (Nat.le_of_ble_eq_true rfl) (by decide) ww_want_d9 (fun he => ?_) (fun he => ?_)
  · rcases hx with hx | hx | hx
    · exact absurd hx he
    · rw [hx]
      refine ⟨17, ⟨[], ⟨0, 14, 17, 37⟩, [⟨0, 14, 21, 13⟩], "java/util/NoSuchElementException", rfl, (fun z hz => by cases hz), rfl, by decide, (wt_g4 195 rfl rfl), (wt_n4 209 rfl rfl), rfl⟩, fun q9 => ?_⟩
      refine wt_o_astore hE [some (.ref (wt_ad (wt_xw X) 0)), some (.int x1), some (.int x2), some (.int x3), some (.int x4), some (.ref o), some (.ref q9)] ww_want_d17 (by decide) rfl ?_
      refine wt_o_iconst hE (1 : Int32) ww_want_d19 (by decide) ?_
      exact wt_o_ret hE hR (by decide) ww_want_d20
    · rw [hx]
      refine ⟨21, ⟨[⟨0, 14, 17, 37⟩], ⟨0, 14, 21, 13⟩, [], "java/lang/IllegalArgumentException", rfl, (fun z hz => Or.inr (by cases List.mem_singleton.mp hz; exact ⟨by decide, "java/util/NoSuchElementException", (wt_g4 195 rfl rfl), hR.2.2.2.2.1⟩)), rfl, by decide, (wt_g3 56 rfl rfl), (wt_n3 66 rfl rfl), rfl⟩, fun q9 => ?_⟩
      refine wt_o_astore hE [some (.ref (wt_ad (wt_xw X) 0)), some (.int x1), some (.int x2), some (.int x3), some (.int x4), some (.ref o), some (.ref q9)] ww_want_d21 (by decide) rfl ?_
      refine wt_o_iconst hE (2 : Int32) ww_want_d23 (by decide) ?_
      exact wt_o_ret hE hR (by decide) ww_want_d24
  refine wt_o_put hE ww_want_d12 ww_want_d13 ?_
  refine wt_o_goto hE 25 ww_want_d14 rfl ?_
  refine wt_o_iconst hE (0 : Int32) ww_want_d25 (by decide) ?_
  exact wt_o_ret hE hR (by decide) ww_want_d26
abbrev wt_y_lw_word : MethodName := ⟨"WornTypeLaw", "word", "(LWornType;II[J)I"⟩
abbrev wt_hh_word : List (Nat × Nat × Nat × Nat) := [(0, 10, 13, 37), (0, 10, 17, 13)]
set_option maxRecDepth 100000 in
theorem wt_cm_word : Cond.codeWith wt_y_lw_word method_9_code 5 (some .int) wt_hh_word ∈ wt_GT := (wt_g4 194 rfl rfl)
def wb602ww_method_9_code_r0 : List (List Nat) := [45, 3, 42, 27, 28, 182, 0, 34, 133, 80, 167, 0, 11, 58, 4, 4, 172, 58, 4, 5, 172, 3, 172] :: []
set_option maxRecDepth 100000 in
theorem wb602ww_method_9_code_c0 : wt_cs method_9_code 0 wb602ww_method_9_code_r0 := wt_cs_of (by decide +kernel)
theorem ww_word_d0 : decode method_9_code 0 = .ok (.aload_n 3, 1) := wt_op45 wb602ww_method_9_code_c0 0 rfl rfl
theorem ww_word_d1 : decode method_9_code 1 = .ok (.iconst 0, 1) := wt_op3 wb602ww_method_9_code_c0 1 rfl rfl
theorem ww_word_d2 : decode method_9_code 2 = .ok (.aload_n 0, 1) := wt_op42 wb602ww_method_9_code_c0 2 rfl rfl
theorem ww_word_d3 : decode method_9_code 3 = .ok (.iload_n 1, 1) := wt_op27 wb602ww_method_9_code_c0 3 rfl rfl
theorem ww_word_d4 : decode method_9_code 4 = .ok (.iload_n 2, 1) := wt_op28 wb602ww_method_9_code_c0 4 rfl rfl
theorem ww_word_d5 : decode method_9_code 5 = .ok (.invokevirtual 34, 3) := wt_op182 wb602ww_method_9_code_c0 5 rfl rfl rfl
theorem ww_word_d8 : decode method_9_code 8 = .ok (.i2l, 1) := wt_op133 wb602ww_method_9_code_c0 8 rfl rfl
theorem ww_word_d9 : decode method_9_code 9 = .ok (.lastore, 1) := wt_op80 wb602ww_method_9_code_c0 9 rfl rfl
theorem ww_word_d10 : decode method_9_code 10 = .ok (.goto 11, 3) := wt_op167 wb602ww_method_9_code_c0 10 rfl rfl rfl
theorem ww_word_d13 : decode method_9_code 13 = .ok (.astore 4, 2) := wt_op58 wb602ww_method_9_code_c0 13 rfl rfl
theorem ww_word_d15 : decode method_9_code 15 = .ok (.iconst 1, 1) := wt_op4 wb602ww_method_9_code_c0 15 rfl rfl
theorem ww_word_d16 : decode method_9_code 16 = .ok (.ireturn, 1) := wt_op172 wb602ww_method_9_code_c0 16 rfl rfl
theorem ww_word_d17 : decode method_9_code 17 = .ok (.astore 4, 2) := wt_op58 wb602ww_method_9_code_c0 17 rfl rfl
theorem ww_word_d19 : decode method_9_code 19 = .ok (.iconst 2, 1) := wt_op5 wb602ww_method_9_code_c0 19 rfl rfl
theorem ww_word_d20 : decode method_9_code 20 = .ok (.ireturn, 1) := wt_op172 wb602ww_method_9_code_c0 20 rfl rfl
theorem ww_word_d21 : decode method_9_code 21 = .ok (.iconst 0, 1) := wt_op3 wb602ww_method_9_code_c0 21 rfl rfl
theorem ww_word_d22 : decode method_9_code 22 = .ok (.ireturn, 1) := wt_op172 wb602ww_method_9_code_c0 22 rfl rfl
set_option maxRecDepth 100000 in
set_option maxHeartbeats 4000000 in
theorem ww_word_ok {l : Launch} (htr : l.stackTraces = false) {w : wt_E} {o : Nat} (hod : ∀ i, wt_dom w i → wt_ad w i ≠ o) (hD : ∀ i, i < 108 → wt_dom w i) {n : Nat} {x1 : Int32} {x2 : Int32} {σ : wt_St} {q : Nat × Int32 × wt_St} (h : wp_ap_word n x1 x2 σ = some q) (hx : q.1 = 0 ∨ q.1 = 2 ∨ q.1 = 1) : wt_CtrW l w o wt_y_lw_word method_9_code 5 wt_hh_word 8 8 [.ref (wt_ad w 0), .int x1, .int x2, .ref o] σ q.2.2 := by
  refine wt_ctrW htr hod (by decide +kernel) wt_cm_word rfl (Nat.le_of_ble_eq_true rfl) [some (.ref (wt_ad w 0)), some (.int x1), some (.int x2), some (.ref o), none] rfl ?_
  intro X hXl hXw hE hR
  subst hXl
  subst hXw
  have hE : wt_OkO X o method_9_code 5 "WornTypeLaw" 8 8 := hE
  refine wt_o_aload_n hE ww_word_d0 rfl ?_
  refine wt_o_iconst hE (0 : Int32) ww_word_d1 (by decide) ?_
  refine wt_o_aload_n hE ww_word_d2 rfl ?_
  refine wt_o_iload_n hE ww_word_d3 rfl ?_
  refine wt_o_iload_n hE ww_word_d4 rfl ?_
  refine wt_o_callX hE hR (dd := 7) [.int x1, .int x2] wt_lm_lw_34 (wt_g4 196 rfl rfl) wt_ya_ap_word (wp_ap_word_ok htr hD h) (by decide) (hD 0 (by decide)) wt_L0 rfl rfl rfl (Nat.le_of_ble_eq_true rfl) (by decide) ww_word_d5 (fun he => ?_) (fun he => ?_)
  · rcases hx with hx | hx | hx
    · exact absurd hx he
    · rw [hx]
      refine ⟨13, ⟨[], ⟨0, 10, 13, 37⟩, [⟨0, 10, 17, 13⟩], "java/util/NoSuchElementException", rfl, (fun z hz => by cases hz), rfl, by decide, (wt_g4 195 rfl rfl), (wt_n4 209 rfl rfl), rfl⟩, fun q9 => ?_⟩
      refine wt_o_astore hE [some (.ref (wt_ad (wt_xw X) 0)), some (.int x1), some (.int x2), some (.ref o), some (.ref q9)] ww_word_d13 (by decide) rfl ?_
      refine wt_o_iconst hE (1 : Int32) ww_word_d15 (by decide) ?_
      exact wt_o_ret hE hR (by decide) ww_word_d16
    · rw [hx]
      refine ⟨17, ⟨[⟨0, 10, 13, 37⟩], ⟨0, 10, 17, 13⟩, [], "java/lang/IllegalArgumentException", rfl, (fun z hz => Or.inr (by cases List.mem_singleton.mp hz; exact ⟨by decide, "java/util/NoSuchElementException", (wt_g4 195 rfl rfl), hR.2.2.2.2.1⟩)), rfl, by decide, (wt_g3 56 rfl rfl), (wt_n3 66 rfl rfl), rfl⟩, fun q9 => ?_⟩
      refine wt_o_astore hE [some (.ref (wt_ad (wt_xw X) 0)), some (.int x1), some (.int x2), some (.ref o), some (.ref q9)] ww_word_d17 (by decide) rfl ?_
      refine wt_o_iconst hE (2 : Int32) ww_word_d19 (by decide) ?_
      exact wt_o_ret hE hR (by decide) ww_word_d20
  refine wt_o_put hE ww_word_d8 ww_word_d9 ?_
  refine wt_o_goto hE 21 ww_word_d10 rfl ?_
  refine wt_o_iconst hE (0 : Int32) ww_word_d21 (by decide) ?_
  exact wt_o_ret hE hR (by decide) ww_word_d22
abbrev wt_y_lw_wordings : MethodName := ⟨"WornTypeLaw", "wordings", "(LWornType;I[J)I"⟩
abbrev wt_hh_wordings : List (Nat × Nat × Nat × Nat) := [(0, 9, 12, 37)]
set_option maxRecDepth 100000 in
theorem wt_cm_wordings : Cond.codeWith wt_y_lw_wordings method_22_code 4 (some .int) wt_hh_wordings ∈ wt_GT := (wt_g6 4 rfl rfl)
def wb602ww_method_22_code_r0 : List (List Nat) := [44, 3, 42, 27, 182, 0, 76, 133, 80, 167, 0, 6, 78, 4, 172, 3, 172] :: []
set_option maxRecDepth 100000 in
theorem wb602ww_method_22_code_c0 : wt_cs method_22_code 0 wb602ww_method_22_code_r0 := wt_cs_of (by decide +kernel)
theorem ww_wordings_d0 : decode method_22_code 0 = .ok (.aload_n 2, 1) := wt_op44 wb602ww_method_22_code_c0 0 rfl rfl
theorem ww_wordings_d1 : decode method_22_code 1 = .ok (.iconst 0, 1) := wt_op3 wb602ww_method_22_code_c0 1 rfl rfl
theorem ww_wordings_d2 : decode method_22_code 2 = .ok (.aload_n 0, 1) := wt_op42 wb602ww_method_22_code_c0 2 rfl rfl
theorem ww_wordings_d3 : decode method_22_code 3 = .ok (.iload_n 1, 1) := wt_op27 wb602ww_method_22_code_c0 3 rfl rfl
theorem ww_wordings_d4 : decode method_22_code 4 = .ok (.invokevirtual 76, 3) := wt_op182 wb602ww_method_22_code_c0 4 rfl rfl rfl
theorem ww_wordings_d7 : decode method_22_code 7 = .ok (.i2l, 1) := wt_op133 wb602ww_method_22_code_c0 7 rfl rfl
theorem ww_wordings_d8 : decode method_22_code 8 = .ok (.lastore, 1) := wt_op80 wb602ww_method_22_code_c0 8 rfl rfl
theorem ww_wordings_d9 : decode method_22_code 9 = .ok (.goto 6, 3) := wt_op167 wb602ww_method_22_code_c0 9 rfl rfl rfl
theorem ww_wordings_d12 : decode method_22_code 12 = .ok (.astore_n 3, 1) := wt_op78 wb602ww_method_22_code_c0 12 rfl rfl
theorem ww_wordings_d13 : decode method_22_code 13 = .ok (.iconst 1, 1) := wt_op4 wb602ww_method_22_code_c0 13 rfl rfl
theorem ww_wordings_d14 : decode method_22_code 14 = .ok (.ireturn, 1) := wt_op172 wb602ww_method_22_code_c0 14 rfl rfl
theorem ww_wordings_d15 : decode method_22_code 15 = .ok (.iconst 0, 1) := wt_op3 wb602ww_method_22_code_c0 15 rfl rfl
theorem ww_wordings_d16 : decode method_22_code 16 = .ok (.ireturn, 1) := wt_op172 wb602ww_method_22_code_c0 16 rfl rfl
set_option maxRecDepth 100000 in
set_option maxHeartbeats 4000000 in
theorem ww_wordings_ok {l : Launch} (htr : l.stackTraces = false) {w : wt_E} {o : Nat} (hod : ∀ i, wt_dom w i → wt_ad w i ≠ o) (hD : ∀ i, i < 108 → wt_dom w i) {n : Nat} {x1 : Int32} {σ : wt_St} {q : Nat × Int32 × wt_St} (h : wp_ap_wordings n x1 σ = some q) (hx : q.1 = 0 ∨ q.1 = 2) : wt_CtrW l w o wt_y_lw_wordings method_22_code 4 wt_hh_wordings 8 8 [.ref (wt_ad w 0), .int x1, .ref o] σ q.2.2 := by
  refine wt_ctrW htr hod (by decide +kernel) wt_cm_wordings rfl (Nat.le_of_ble_eq_true rfl) [some (.ref (wt_ad w 0)), some (.int x1), some (.ref o), none] rfl ?_
  intro X hXl hXw hE hR
  subst hXl
  subst hXw
  have hE : wt_OkO X o method_22_code 4 "WornTypeLaw" 8 8 := hE
  refine wt_o_aload_n hE ww_wordings_d0 rfl ?_
  refine wt_o_iconst hE (0 : Int32) ww_wordings_d1 (by decide) ?_
  refine wt_o_aload_n hE ww_wordings_d2 rfl ?_
  refine wt_o_iload_n hE ww_wordings_d3 rfl ?_
  refine wt_o_callX hE hR (dd := 7) [.int x1] wt_lm_lw_76 (wt_g6 5 rfl rfl) wt_ya_ap_wordings (wp_ap_wordings_ok htr hD h) (by decide) (hD 0 (by decide)) wt_L0 rfl rfl rfl (Nat.le_of_ble_eq_true rfl) (by decide) ww_wordings_d4 (fun he => ?_) (fun he => ?_)
  · rcases hx with hx | hx
    · exact absurd hx he
    · rw [hx]
      refine ⟨12, ⟨[], ⟨0, 9, 12, 37⟩, [], "java/util/NoSuchElementException", rfl, (fun z hz => by cases hz), rfl, by decide, (wt_g4 195 rfl rfl), (wt_n4 209 rfl rfl), rfl⟩, fun q9 => ?_⟩
      refine wt_o_astore_n hE [some (.ref (wt_ad (wt_xw X) 0)), some (.int x1), some (.ref o), some (.ref q9)] ww_wordings_d12 (by decide) rfl ?_
      refine wt_o_iconst hE (1 : Int32) ww_wordings_d13 (by decide) ?_
      exact wt_o_ret hE hR (by decide) ww_wordings_d14
  refine wt_o_put hE ww_wordings_d7 ww_wordings_d8 ?_
  refine wt_o_goto hE 15 ww_wordings_d9 rfl ?_
  refine wt_o_iconst hE (0 : Int32) ww_wordings_d15 (by decide) ?_
  exact wt_o_ret hE hR (by decide) ww_wordings_d16
end WW0
