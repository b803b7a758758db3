theorem wt_zero.mono {σ : wt_St} {a b : Nat} (h : wt_zero σ a) (hab : a ≤ b) : wt_zero σ b := fun i hi => h i (Nat.le_trans hab hi)
theorem wt_zero.fr {σ σ' : wt_St} {a : Nat} (h : wt_zero σ a) (hf : ∀ i, a ≤ i → (∀ q, wt_gf σ' i q = wt_gf σ i q) ∧ ∀ q, wt_ga σ' i q = wt_ga σ i q) : wt_zero σ' a := fun i hi => ⟨fun q => ((hf i hi).1 q).trans ((h i hi).1 q), fun q => ((hf i hi).2 q).trans ((h i hi).2 q)⟩
/-! cells that have all their places filled -/
def wt_wOk (next : Nat) (U : wt_U) (i : Nat) (e : Nat × Nat × List Nat) : Bool := match e with
  | (0, _, _) => true
  | (1, n, rs) => decide (rs.getD 0 0 + n ≤ next)
  | (2, n, rs) => (List.range n).all (fun j => ! wt_em next U i j (rs.getD 0 0 + rs.getD 1 0 * j))
  | (_ + 3, _, rs) => (List.range rs.length).all (fun q => rs.getD q 0 == 0 || ! wt_em next U i q (rs.getD q 0 - 1))
theorem wt_pe_full {cI cII cS : ClassId} {ad : Nat → Nat} {σ : wt_St} {next i : Nat} {U : wt_U} {e : Nat × Nat × List Nat} (hL : wt_LAY[i]? = some e) (h : wt_wOk next U i e = true) : wt_pe cI cII cS ad σ next U i = wt_ce cI cII cS ad σ i := by
  unfold wt_pe wt_ce
  rw [hL]
  obtain ⟨_ | _ | _ | k, n, rs⟩ := e
  · rfl
  · dsimp only
    refine congrArg _ (congrArg _ (congrArg _ (congrArg _ (congrArg _ (congrArg _ (congrArg _ (funext fun q => ?_)))))))
    have h1 : rs.getD 0 0 + n ≤ next := by simpa [wt_wOk] using h
    by_cases hq : q < n
    · rw [if_pos ⟨hq, by omega⟩, if_pos hq]
    · rw [if_neg (fun z => hq z.1), if_neg hq]
  · dsimp only
    refine congrArg _ (congrArg _ (congrArg _ (congrArg _ (congrArg _ (congrArg _ (congrArg _ (funext fun q => ?_)))))))
    by_cases hq : q < n
    · have h1 := List.all_eq_true.mp h q (List.mem_range.mpr hq)
      rw [Bool.not_eq_true'] at h1
      rw [if_pos ⟨hq, h1⟩, if_pos hq]
    · rw [if_neg (fun z => hq z.1), if_neg hq]
  · dsimp only
    refine congrArg _ (congrArg _ (List.map_congr_left fun q hq => ?_))
    have h1 := List.all_eq_true.mp h q hq
    simp only [Bool.or_eq_true, beq_iff_eq, Bool.not_eq_true'] at h1
    refine if_neg fun z => ?_
    rcases h1 with h1 | h1
    · exact z.1 h1
    · rw [h1] at z
      exact absurd z.2 (by decide)
def wt_wOkR (next : Nat) (U : wt_U) (a b : Nat) : Bool := decide (b ≤ next) && (List.range (b - a)).all (fun i => match wt_LAY[a + i]? with
  | some e => wt_wOk next U (a + i) e
  | none => false)
theorem wt_whole_of {next : Nat} {U : wt_U} {a b : Nat} (h : wt_wOkR next U a b = true) : wt_whole next U (fun i => a ≤ i ∧ i < b) := by
  unfold wt_wOkR at h
  rw [Bool.and_eq_true, decide_eq_true_eq] at h
  intro i hi
  refine ⟨Nat.lt_of_lt_of_le hi.2 h.1, fun cI cII cS ad σ => ?_⟩
  have h1 := List.all_eq_true.mp h.2 (i - a) (List.mem_range.mpr (by omega))
  rw [show a + (i - a) = i by omega] at h1
  cases hL : wt_LAY[i]? with
  | none => rw [hL] at h1; cases h1
  | some e => rw [hL] at h1; exact wt_pe_full hL h1
section WB4
variable {X : wt_X} {cc : ByteArray} {nL : Nat} {own : String} {d Km k n next : Nat} {U : wt_U} {σ : wt_St} {pc : Nat} {lv : List (Option wt_Q)} {st : List wt_Q}
theorem wt_bn_alen2 (h : wt_Ok X cc nL own d Km) {i m : Nat} {rs : List Nat} (v : Int32) (hL : wt_LAY[i]? = some (2, m, rs)) (hi : i < next) (hv : Int32.ofNat m = v) (hd : decode cc pc = .ok (.arraylength, 1)) (kk : wt_B X k n next U σ (pc + 1) lv (.inl v :: st)) : wt_B X k n next U σ pc lv (.inr i :: st) := by
  intro ad H locs ls ce sl h1 h2 hw hS hl
  have hg := wt_bw_get (w := wt_xw X) (ad := ad) (σ := σ) (U := U) hi
  have e : wt_pe (wt_wI (wt_xw X)) (wt_wJ (wt_xw X)) (wt_wS (wt_xw X)) ad σ next U i = .inl (wt_wS (wt_xw X), m, .inr (.inr (.inr (.inr (fun j => if j < m ∧ wt_em next U i j (rs.getD 0 0 + rs.getD 1 0 * j) = false then some (ad (rs.getD 0 0 + rs.getD 1 0 * j)) else none))))) := by
    unfold wt_pe
    rw [hL]
  rw [e] at hg
  exact va_alen h.1 h.2.1 h.2.2.2.2.2.2.1 hw.2.1 i 2 hg rfl hv hd (kk ad H locs ls ce sl h1 h2 hw hS hl)
end WB4
def wb52ctr_prog_7_method_1_code_r0 : List (List Nat) := [42, 183, 0, 3, 42, 17, 1, 244, 188, 10, 181, 0, 9, 42, 16, 9, 188, 10, 181, 0, 15, 42, 2, 181, 0, 18, 177] :: []
set_option maxRecDepth 100000 in
theorem wb52ctr_prog_7_method_1_code_c0 : wt_cs prog_7_method_1_code 0 wb52ctr_prog_7_method_1_code_r0 := wt_cs_of (by decide +kernel)
theorem wcd_tp_0 : decode prog_7_method_1_code 0 = .ok (.aload_n 0, 1) := wt_op42 wb52ctr_prog_7_method_1_code_c0 0 rfl rfl
theorem wcd_tp_1 : decode prog_7_method_1_code 1 = .ok (.invokespecial 3, 3) := wt_op183 wb52ctr_prog_7_method_1_code_c0 1 rfl rfl rfl
theorem wcd_tp_4 : decode prog_7_method_1_code 4 = .ok (.aload_n 0, 1) := wt_op42 wb52ctr_prog_7_method_1_code_c0 4 rfl rfl
theorem wcd_tp_5 : decode prog_7_method_1_code 5 = .ok (.sipush 500, 3) := wt_op17 wb52ctr_prog_7_method_1_code_c0 5 rfl rfl rfl
theorem wcd_tp_8 : decode prog_7_method_1_code 8 = .ok (.newarray .int, 2) := wt_op188 wb52ctr_prog_7_method_1_code_c0 8 rfl rfl
theorem wcd_tp_10 : decode prog_7_method_1_code 10 = .ok (.putfield 9, 3) := wt_op181 wb52ctr_prog_7_method_1_code_c0 10 rfl rfl rfl
theorem wcd_tp_13 : decode prog_7_method_1_code 13 = .ok (.aload_n 0, 1) := wt_op42 wb52ctr_prog_7_method_1_code_c0 13 rfl rfl
theorem wcd_tp_14 : decode prog_7_method_1_code 14 = .ok (.bipush 9, 2) := wt_op16 wb52ctr_prog_7_method_1_code_c0 14 rfl rfl rfl
theorem wcd_tp_16 : decode prog_7_method_1_code 16 = .ok (.newarray .int, 2) := wt_op188 wb52ctr_prog_7_method_1_code_c0 16 rfl rfl
theorem wcd_tp_18 : decode prog_7_method_1_code 18 = .ok (.putfield 15, 3) := wt_op181 wb52ctr_prog_7_method_1_code_c0 18 rfl rfl rfl
theorem wcd_tp_21 : decode prog_7_method_1_code 21 = .ok (.aload_n 0, 1) := wt_op42 wb52ctr_prog_7_method_1_code_c0 21 rfl rfl
theorem wcd_tp_22 : decode prog_7_method_1_code 22 = .ok (.iconst (-1), 1) := wt_op2 wb52ctr_prog_7_method_1_code_c0 22 rfl rfl
theorem wcd_tp_23 : decode prog_7_method_1_code 23 = .ok (.putfield 18, 3) := wt_op181 wb52ctr_prog_7_method_1_code_c0 23 rfl rfl rfl
theorem wcd_tp_26 : decode prog_7_method_1_code 26 = .ok (.return_, 1) := wt_op177 wb52ctr_prog_7_method_1_code_c0 26 rfl rfl
set_option maxRecDepth 100000 in
set_option maxHeartbeats 4000000 in
theorem wc_tp_1_z {σ : wt_St} (hz0 : wt_zero σ 2) : wt_zero (wt_sf σ 1 7 (-1 : Int32)) 4 := by
  have hz1 : wt_zero (wt_sf σ 1 7 (-1 : Int32)) 4 := (hz0.mono (by decide)).sf (by decide)
  exact hz1.mono (by decide)
set_option maxRecDepth 100000 in
set_option maxHeartbeats 40000000 in
theorem wc_tp_1 {l : Launch} {w : wt_E} {σ : wt_St} (hdm : ∀ i, wt_dom w i ↔ i < 2) (hz0 : wt_zero σ 2) : wt_CtrB wt_SA l w wt_y_tp_init prog_7_method_1_code 1 1 32 [.inr 1] 2 4 [(0, 0)] [(0, 0)] σ (wt_sf σ 1 7 (-1 : Int32)) := by
  have hz1 : wt_zero (wt_sf σ 1 7 (-1 : Int32)) 4 := (hz0.mono (by decide)).sf (by decide)
  refine wt_ctrB hdm hz0 wt_pl_tp_init rfl (Nat.le_of_ble_eq_true rfl) [some (.inr 1)] rfl ?_
  intro X hXl hXw hE hR hSA
  subst hXl
  subst hXw
  have hE : wt_Ok X prog_7_method_1_code 1 "WornType$Tape" 1 32 := hE
  refine wt_bn_aload_n hE wcd_tp_0 rfl ?_
  refine wt_bn_obj hE (wt_g1 38 rfl rfl) (wt_g1 31 rfl rfl) (wt_g1 32 rfl rfl) (by omega) (by decide) wcd_tp_1 ?_
  refine wt_bn_aload_n hE wcd_tp_4 rfl ?_
  refine wt_bn_sipush hE (500 : Int32) wcd_tp_5 wt_cs_500 ?_
  refine wt_bn_newarr (N := 500) hE [(1, 0)] (wt_g1 69 rfl rfl) wt_L2 wt_cn_500.1 wt_cn_500.2 (Nat.le_of_ble_eq_true rfl) (by decide +kernel) rfl rfl (Nat.le_of_ble_eq_true rfl) (Nat.le_of_ble_eq_true rfl) wcd_tp_8 ?_
  refine wt_bn_putr (kf := 0) hE [(0, 0)] hR.2.1 wt_cf5 rfl (Nat.le_of_ble_eq_true rfl) rfl rfl (wt_g1 39 rfl rfl) (fun _ => rfl) (fun _ => rfl) wt_L1 rfl (Nat.le_of_ble_eq_true rfl) (Nat.le_of_ble_eq_true rfl) (by decide +kernel) wcd_tp_10 ?_
  refine wt_bn_aload_n hE wcd_tp_13 rfl ?_
  refine wt_bn_bipush hE (9 : Int32) wcd_tp_14 wt_cb_9 ?_
  refine wt_bn_newarr (N := 9) hE [(1, 1)] (wt_g1 69 rfl rfl) wt_L3 wt_cn_9.1 wt_cn_9.2 (Nat.le_of_ble_eq_true rfl) (by decide +kernel) rfl rfl (Nat.le_of_ble_eq_true rfl) (Nat.le_of_ble_eq_true rfl) wcd_tp_16 ?_
  refine wt_bn_putr (kf := 1) hE [(0, 0)] hR.2.1 wt_cf5 rfl (Nat.le_of_ble_eq_true rfl) rfl rfl (wt_g1 40 rfl rfl) (fun _ => rfl) (fun _ => rfl) wt_L1 rfl (Nat.le_of_ble_eq_true rfl) (Nat.le_of_ble_eq_true rfl) (by decide +kernel) wcd_tp_18 ?_
  refine wt_bn_aload_n hE wcd_tp_21 rfl ?_
  refine wt_bn_iconst hE (-1 : Int32) wcd_tp_22 wt_ci_m1 ?_
  refine wt_bn_puti (kf := 7) hE wt_cf5 rfl (by decide) rfl rfl (wt_g1 50 rfl rfl) rfl wt_L1 rfl (by decide) wcd_tp_23 ?_
  exact wt_bn_ret (k0 := 32) hE hR (Nat.le_of_ble_eq_true rfl) (Nat.le_of_ble_eq_true rfl) wcd_tp_26
def wb52ctr_prog_2_method_1_code_r2 : List (List Nat) := [181, 0, 30, 42, 182, 0, 33, 177] :: []
def wb52ctr_prog_2_method_1_code_r1 : List (List Nat) := [42, 17, 1, 56, 188, 10, 181, 0, 21, 42, 16, 26, 188, 10, 181, 0, 24, 42, 16, 26, 188, 10, 181, 0, 27, 42, 7, 188, 10] :: wb52ctr_prog_2_method_1_code_r2
def wb52ctr_prog_2_method_1_code_r0 : List (List Nat) := [42, 183, 0, 3, 42, 16, 26, 188, 10, 181, 0, 9, 42, 17, 1, 56, 188, 10, 181, 0, 15, 42, 16, 26, 188, 10, 181, 0, 18] :: wb52ctr_prog_2_method_1_code_r1
set_option maxRecDepth 100000 in
theorem wb52ctr_prog_2_method_1_code_c0 : wt_cs prog_2_method_1_code 0 wb52ctr_prog_2_method_1_code_r0 := wt_cs_of (by decide +kernel)
theorem wb52ctr_prog_2_method_1_code_c1 : wt_cs prog_2_method_1_code 29 wb52ctr_prog_2_method_1_code_r1 := wt_cs_tl (m := 29) wb52ctr_prog_2_method_1_code_c0 rfl rfl
theorem wb52ctr_prog_2_method_1_code_c2 : wt_cs prog_2_method_1_code 58 wb52ctr_prog_2_method_1_code_r2 := wt_cs_tl (m := 29) wb52ctr_prog_2_method_1_code_c1 rfl rfl
theorem wcd_ld_0 : decode prog_2_method_1_code 0 = .ok (.aload_n 0, 1) := wt_op42 wb52ctr_prog_2_method_1_code_c0 0 rfl rfl
theorem wcd_ld_1 : decode prog_2_method_1_code 1 = .ok (.invokespecial 3, 3) := wt_op183 wb52ctr_prog_2_method_1_code_c0 1 rfl rfl rfl
theorem wcd_ld_4 : decode prog_2_method_1_code 4 = .ok (.aload_n 0, 1) := wt_op42 wb52ctr_prog_2_method_1_code_c0 4 rfl rfl
theorem wcd_ld_5 : decode prog_2_method_1_code 5 = .ok (.bipush 26, 2) := wt_op16 wb52ctr_prog_2_method_1_code_c0 5 rfl rfl rfl
theorem wcd_ld_7 : decode prog_2_method_1_code 7 = .ok (.newarray .int, 2) := wt_op188 wb52ctr_prog_2_method_1_code_c0 7 rfl rfl
theorem wcd_ld_9 : decode prog_2_method_1_code 9 = .ok (.putfield 9, 3) := wt_op181 wb52ctr_prog_2_method_1_code_c0 9 rfl rfl rfl
theorem wcd_ld_12 : decode prog_2_method_1_code 12 = .ok (.aload_n 0, 1) := wt_op42 wb52ctr_prog_2_method_1_code_c0 12 rfl rfl
theorem wcd_ld_13 : decode prog_2_method_1_code 13 = .ok (.sipush 312, 3) := wt_op17 wb52ctr_prog_2_method_1_code_c0 13 rfl rfl rfl
theorem wcd_ld_16 : decode prog_2_method_1_code 16 = .ok (.newarray .int, 2) := wt_op188 wb52ctr_prog_2_method_1_code_c0 16 rfl rfl
theorem wcd_ld_18 : decode prog_2_method_1_code 18 = .ok (.putfield 15, 3) := wt_op181 wb52ctr_prog_2_method_1_code_c0 18 rfl rfl rfl
theorem wcd_ld_21 : decode prog_2_method_1_code 21 = .ok (.aload_n 0, 1) := wt_op42 wb52ctr_prog_2_method_1_code_c0 21 rfl rfl
theorem wcd_ld_22 : decode prog_2_method_1_code 22 = .ok (.bipush 26, 2) := wt_op16 wb52ctr_prog_2_method_1_code_c0 22 rfl rfl rfl
theorem wcd_ld_24 : decode prog_2_method_1_code 24 = .ok (.newarray .int, 2) := wt_op188 wb52ctr_prog_2_method_1_code_c0 24 rfl rfl
theorem wcd_ld_26 : decode prog_2_method_1_code 26 = .ok (.putfield 18, 3) := wt_op181 wb52ctr_prog_2_method_1_code_c0 26 rfl rfl rfl
theorem wcd_ld_29 : decode prog_2_method_1_code 29 = .ok (.aload_n 0, 1) := wt_op42 wb52ctr_prog_2_method_1_code_c1 0 rfl rfl
theorem wcd_ld_30 : decode prog_2_method_1_code 30 = .ok (.sipush 312, 3) := wt_op17 wb52ctr_prog_2_method_1_code_c1 1 rfl rfl rfl
theorem wcd_ld_33 : decode prog_2_method_1_code 33 = .ok (.newarray .int, 2) := wt_op188 wb52ctr_prog_2_method_1_code_c1 4 rfl rfl
theorem wcd_ld_35 : decode prog_2_method_1_code 35 = .ok (.putfield 21, 3) := wt_op181 wb52ctr_prog_2_method_1_code_c1 6 rfl rfl rfl
theorem wcd_ld_38 : decode prog_2_method_1_code 38 = .ok (.aload_n 0, 1) := wt_op42 wb52ctr_prog_2_method_1_code_c1 9 rfl rfl
theorem wcd_ld_39 : decode prog_2_method_1_code 39 = .ok (.bipush 26, 2) := wt_op16 wb52ctr_prog_2_method_1_code_c1 10 rfl rfl rfl
theorem wcd_ld_41 : decode prog_2_method_1_code 41 = .ok (.newarray .int, 2) := wt_op188 wb52ctr_prog_2_method_1_code_c1 12 rfl rfl
theorem wcd_ld_43 : decode prog_2_method_1_code 43 = .ok (.putfield 24, 3) := wt_op181 wb52ctr_prog_2_method_1_code_c1 14 rfl rfl rfl
theorem wcd_ld_46 : decode prog_2_method_1_code 46 = .ok (.aload_n 0, 1) := wt_op42 wb52ctr_prog_2_method_1_code_c1 17 rfl rfl
theorem wcd_ld_47 : decode prog_2_method_1_code 47 = .ok (.bipush 26, 2) := wt_op16 wb52ctr_prog_2_method_1_code_c1 18 rfl rfl rfl
theorem wcd_ld_49 : decode prog_2_method_1_code 49 = .ok (.newarray .int, 2) := wt_op188 wb52ctr_prog_2_method_1_code_c1 20 rfl rfl
theorem wcd_ld_51 : decode prog_2_method_1_code 51 = .ok (.putfield 27, 3) := wt_op181 wb52ctr_prog_2_method_1_code_c1 22 rfl rfl rfl
theorem wcd_ld_54 : decode prog_2_method_1_code 54 = .ok (.aload_n 0, 1) := wt_op42 wb52ctr_prog_2_method_1_code_c1 25 rfl rfl
theorem wcd_ld_55 : decode prog_2_method_1_code 55 = .ok (.iconst 4, 1) := wt_op7 wb52ctr_prog_2_method_1_code_c1 26 rfl rfl
theorem wcd_ld_56 : decode prog_2_method_1_code 56 = .ok (.newarray .int, 2) := wt_op188 wb52ctr_prog_2_method_1_code_c1 27 rfl rfl
theorem wcd_ld_58 : decode prog_2_method_1_code 58 = .ok (.putfield 30, 3) := wt_op181 wb52ctr_prog_2_method_1_code_c2 0 rfl rfl rfl
theorem wcd_ld_61 : decode prog_2_method_1_code 61 = .ok (.aload_n 0, 1) := wt_op42 wb52ctr_prog_2_method_1_code_c2 3 rfl rfl
theorem wcd_ld_62 : decode prog_2_method_1_code 62 = .ok (.invokevirtual 33, 3) := wt_op182 wb52ctr_prog_2_method_1_code_c2 4 rfl rfl rfl
theorem wcd_ld_65 : decode prog_2_method_1_code 65 = .ok (.return_, 1) := wt_op177 wb52ctr_prog_2_method_1_code_c2 7 rfl rfl
set_option maxRecDepth 100000 in
set_option maxHeartbeats 4000000 in
theorem wc_ld_4_z {n : Nat} {σ : wt_St} {σ1 : wt_St} (hz0 : wt_zero σ 5) (hc_0 : wp_ld_clear n 4 σ = some σ1) (hf_1 : ∀ i, ¬ (4 ≤ i ∧ i < 12) → (∀ q, wt_gf σ1 i q = wt_gf σ i q) ∧ ∀ q, wt_ga σ1 i q = wt_ga σ i q) : wt_zero σ1 12 := by
  have hz1 : wt_zero σ1 12 := (hz0.mono (by decide)).fr (fun i hi => hf_1 i (by omega))
  exact hz1.mono (by decide)
set_option maxRecDepth 100000 in
set_option maxHeartbeats 40000000 in
theorem wc_ld_4 {l : Launch} {w : wt_E} {n : Nat} {σ : wt_St} {σ1 : wt_St} (hdm : ∀ i, wt_dom w i ↔ i < 5) (hz0 : wt_zero σ 5) (hc_0 : wp_ld_clear n 4 σ = some σ1) (hf_1 : ∀ i, ¬ (4 ≤ i ∧ i < 12) → (∀ q, wt_gf σ1 i q = wt_gf σ i q) ∧ ∀ q, wt_ga σ1 i q = wt_ga σ i q) : wt_CtrB wt_SA l w wt_y_ld_init prog_2_method_1_code 1 2 46 [.inr 4] 5 12 [(0, 1)] [(0, 1)] σ σ1 := by
  have hz1 : wt_zero σ1 12 := (hz0.mono (by decide)).fr (fun i hi => hf_1 i (by omega))
  refine wt_ctrB hdm hz0 wt_pl_ld_init rfl (Nat.le_of_ble_eq_true rfl) [some (.inr 4)] rfl ?_
  intro X hXl hXw hE hR hSA
  subst hXl
  subst hXw
  have hE : wt_Ok X prog_2_method_1_code 1 "WornType$Lead" 2 46 := hE
  refine wt_bn_aload_n hE wcd_ld_0 rfl ?_
  refine wt_bn_obj hE (wt_g1 75 rfl rfl) (wt_g1 31 rfl rfl) (wt_g1 32 rfl rfl) (by omega) (by decide) wcd_ld_1 ?_
  refine wt_bn_aload_n hE wcd_ld_4 rfl ?_
  refine wt_bn_bipush hE (26 : Int32) wcd_ld_5 wt_cb_26 ?_
  refine wt_bn_newarr (N := 26) hE [(4, 0)] (wt_g1 69 rfl rfl) wt_L5 wt_cn_26.1 wt_cn_26.2 (Nat.le_of_ble_eq_true rfl) (by decide +kernel) rfl rfl (Nat.le_of_ble_eq_true rfl) (Nat.le_of_ble_eq_true rfl) wcd_ld_7 ?_
  refine wt_bn_putr (kf := 0) hE [(0, 1)] hR.2.1 wt_cf0 rfl (Nat.le_of_ble_eq_true rfl) rfl rfl (wt_g1 83 rfl rfl) (fun _ => rfl) (fun _ => rfl) wt_L4 rfl (Nat.le_of_ble_eq_true rfl) (Nat.le_of_ble_eq_true rfl) (by decide +kernel) wcd_ld_9 ?_
  refine wt_bn_aload_n hE wcd_ld_12 rfl ?_
  refine wt_bn_sipush hE (312 : Int32) wcd_ld_13 wt_cs_312 ?_
  refine wt_bn_newarr (N := 312) hE [(4, 1)] (wt_g1 69 rfl rfl) wt_L6 wt_cn_312.1 wt_cn_312.2 (Nat.le_of_ble_eq_true rfl) (by decide +kernel) rfl rfl (Nat.le_of_ble_eq_true rfl) (Nat.le_of_ble_eq_true rfl) wcd_ld_16 ?_
  refine wt_bn_putr (kf := 1) hE [(0, 1)] hR.2.1 wt_cf0 rfl (Nat.le_of_ble_eq_true rfl) rfl rfl (wt_g1 85 rfl rfl) (fun _ => rfl) (fun _ => rfl) wt_L4 rfl (Nat.le_of_ble_eq_true rfl) (Nat.le_of_ble_eq_true rfl) (by decide +kernel) wcd_ld_18 ?_
  refine wt_bn_aload_n hE wcd_ld_21 rfl ?_
  refine wt_bn_bipush hE (26 : Int32) wcd_ld_22 wt_cb_26 ?_
  refine wt_bn_newarr (N := 26) hE [(4, 2)] (wt_g1 69 rfl rfl) wt_L7 wt_cn_26.1 wt_cn_26.2 (Nat.le_of_ble_eq_true rfl) (by decide +kernel) rfl rfl (Nat.le_of_ble_eq_true rfl) (Nat.le_of_ble_eq_true rfl) wcd_ld_24 ?_
  refine wt_bn_putr (kf := 2) hE [(0, 1)] hR.2.1 wt_cf0 rfl (Nat.le_of_ble_eq_true rfl) rfl rfl (wt_g1 87 rfl rfl) (fun _ => rfl) (fun _ => rfl) wt_L4 rfl (Nat.le_of_ble_eq_true rfl) (Nat.le_of_ble_eq_true rfl) (by decide +kernel) wcd_ld_26 ?_
  refine wt_bn_aload_n hE wcd_ld_29 rfl ?_
  refine wt_bn_sipush hE (312 : Int32) wcd_ld_30 wt_cs_312 ?_
  refine wt_bn_newarr (N := 312) hE [(4, 3)] (wt_g1 69 rfl rfl) wt_L8 wt_cn_312.1 wt_cn_312.2 (Nat.le_of_ble_eq_true rfl) (by decide +kernel) rfl rfl (Nat.le_of_ble_eq_true rfl) (Nat.le_of_ble_eq_true rfl) wcd_ld_33 ?_
  refine wt_bn_putr (kf := 3) hE [(0, 1)] hR.2.1 wt_cf0 rfl (Nat.le_of_ble_eq_true rfl) rfl rfl (wt_g1 90 rfl rfl) (fun _ => rfl) (fun _ => rfl) wt_L4 rfl (Nat.le_of_ble_eq_true rfl) (Nat.le_of_ble_eq_true rfl) (by decide +kernel) wcd_ld_35 ?_
  refine wt_bn_aload_n hE wcd_ld_38 rfl ?_
  refine wt_bn_bipush hE (26 : Int32) wcd_ld_39 wt_cb_26 ?_
  refine wt_bn_newarr (N := 26) hE [(4, 4)] (wt_g1 69 rfl rfl) wt_L9 wt_cn_26.1 wt_cn_26.2 (Nat.le_of_ble_eq_true rfl) (by decide +kernel) rfl rfl (Nat.le_of_ble_eq_true rfl) (Nat.le_of_ble_eq_true rfl) wcd_ld_41 ?_
  refine wt_bn_putr (kf := 4) hE [(0, 1)] hR.2.1 wt_cf0 rfl (Nat.le_of_ble_eq_true rfl) rfl rfl (wt_g1 91 rfl rfl) (fun _ => rfl) (fun _ => rfl) wt_L4 rfl (Nat.le_of_ble_eq_true rfl) (Nat.le_of_ble_eq_true rfl) (by decide +kernel) wcd_ld_43 ?_
  refine wt_bn_aload_n hE wcd_ld_46 rfl ?_
  refine wt_bn_bipush hE (26 : Int32) wcd_ld_47 wt_cb_26 ?_
  refine wt_bn_newarr (N := 26) hE [(4, 5)] (wt_g1 69 rfl rfl) wt_L10 wt_cn_26.1 wt_cn_26.2 (Nat.le_of_ble_eq_true rfl) (by decide +kernel) rfl rfl (Nat.le_of_ble_eq_true rfl) (Nat.le_of_ble_eq_true rfl) wcd_ld_49 ?_
  refine wt_bn_putr (kf := 5) hE [(0, 1)] hR.2.1 wt_cf0 rfl (Nat.le_of_ble_eq_true rfl) rfl rfl (wt_g1 94 rfl rfl) (fun _ => rfl) (fun _ => rfl) wt_L4 rfl (Nat.le_of_ble_eq_true rfl) (Nat.le_of_ble_eq_true rfl) (by decide +kernel) wcd_ld_51 ?_
  refine wt_bn_aload_n hE wcd_ld_54 rfl ?_
  refine wt_bn_iconst hE (4 : Int32) wcd_ld_55 wt_ci_4 ?_
  refine wt_bn_newarr (N := 4) hE [(4, 6)] (wt_g1 69 rfl rfl) wt_L11 wt_cn_4.1 wt_cn_4.2 (Nat.le_of_ble_eq_true rfl) (by decide +kernel) rfl rfl (Nat.le_of_ble_eq_true rfl) (Nat.le_of_ble_eq_true rfl) wcd_ld_56 ?_
  refine wt_bn_putr (kf := 6) hE [(0, 1)] hR.2.1 wt_cf0 rfl (Nat.le_of_ble_eq_true rfl) rfl rfl (wt_g1 97 rfl rfl) (fun _ => rfl) (fun _ => rfl) wt_L4 rfl (Nat.le_of_ble_eq_true rfl) (Nat.le_of_ble_eq_true rfl) (by decide +kernel) wcd_ld_58 ?_
  refine wt_bn_aload_n hE wcd_ld_61 rfl ?_
  refine wt_bn_callV hE (fun i => 4 ≤ i ∧ i < 12) (wt_whole_of (by decide +kernel)) wt_lm_ld_33 wt_ya_ld_clear (As := []) (fun ad => wp_ld_clear_ok (w := wt_at (wt_xw X) ad (fun i => 4 ≤ i ∧ i < 12)) wt_isLead_4 (fun j hj => (⟨by omega, by omega⟩ : 4 ≤ 4 + j ∧ 4 + j < 12)) hc_0) (by omega) ⟨by decide, by decide⟩ wt_L4 rfl rfl rfl (by decide) (Nat.le_of_ble_eq_true rfl) hf_1 hz1 (Nat.le_of_ble_eq_true rfl) wcd_ld_62 ?_
  exact wt_bn_ret (k0 := 46) hE hR (Nat.le_of_ble_eq_true rfl) (Nat.le_of_ble_eq_true rfl) wcd_ld_65
set_option maxRecDepth 100000 in
set_option maxHeartbeats 4000000 in
theorem wc_ld_12_z {n : Nat} {σ : wt_St} {σ1 : wt_St} (hz0 : wt_zero σ 13) (hc_0 : wp_ld_clear n 12 σ = some σ1) (hf_1 : ∀ i, ¬ (12 ≤ i ∧ i < 20) → (∀ q, wt_gf σ1 i q = wt_gf σ i q) ∧ ∀ q, wt_ga σ1 i q = wt_ga σ i q) : wt_zero σ1 20 := by
  have hz1 : wt_zero σ1 20 := (hz0.mono (by decide)).fr (fun i hi => hf_1 i (by omega))
  exact hz1.mono (by decide)
set_option maxRecDepth 100000 in
set_option maxHeartbeats 40000000 in
theorem wc_ld_12 {l : Launch} {w : wt_E} {n : Nat} {σ : wt_St} {σ1 : wt_St} (hdm : ∀ i, wt_dom w i ↔ i < 13) (hz0 : wt_zero σ 13) (hc_0 : wp_ld_clear n 12 σ = some σ1) (hf_1 : ∀ i, ¬ (12 ≤ i ∧ i < 20) → (∀ q, wt_gf σ1 i q = wt_gf σ i q) ∧ ∀ q, wt_ga σ1 i q = wt_ga σ i q) : wt_CtrB wt_SA l w wt_y_ld_init prog_2_method_1_code 1 2 46 [.inr 12] 13 20 [(0, 2)] [(0, 2)] σ σ1 := by
  have hz1 : wt_zero σ1 20 := (hz0.mono (by decide)).fr (fun i hi => hf_1 i (by omega))
  refine wt_ctrB hdm hz0 wt_pl_ld_init rfl (Nat.le_of_ble_eq_true rfl) [some (.inr 12)] rfl ?_
  intro X hXl hXw hE hR hSA
  subst hXl
  subst hXw
  have hE : wt_Ok X prog_2_method_1_code 1 "WornType$Lead" 2 46 := hE
  refine wt_bn_aload_n hE wcd_ld_0 rfl ?_
  refine wt_bn_obj hE (wt_g1 75 rfl rfl) (wt_g1 31 rfl rfl) (wt_g1 32 rfl rfl) (by omega) (by decide) wcd_ld_1 ?_
  refine wt_bn_aload_n hE wcd_ld_4 rfl ?_
  refine wt_bn_bipush hE (26 : Int32) wcd_ld_5 wt_cb_26 ?_
  refine wt_bn_newarr (N := 26) hE [(12, 0)] (wt_g1 69 rfl rfl) wt_L13 wt_cn_26.1 wt_cn_26.2 (Nat.le_of_ble_eq_true rfl) (by decide +kernel) rfl rfl (Nat.le_of_ble_eq_true rfl) (Nat.le_of_ble_eq_true rfl) wcd_ld_7 ?_
  refine wt_bn_putr (kf := 0) hE [(0, 2)] hR.2.1 wt_cf0 rfl (Nat.le_of_ble_eq_true rfl) rfl rfl (wt_g1 83 rfl rfl) (fun _ => rfl) (fun _ => rfl) wt_L12 rfl (Nat.le_of_ble_eq_true rfl) (Nat.le_of_ble_eq_true rfl) (by decide +kernel) wcd_ld_9 ?_
  refine wt_bn_aload_n hE wcd_ld_12 rfl ?_
  refine wt_bn_sipush hE (312 : Int32) wcd_ld_13 wt_cs_312 ?_
  refine wt_bn_newarr (N := 312) hE [(12, 1)] (wt_g1 69 rfl rfl) wt_L14 wt_cn_312.1 wt_cn_312.2 (Nat.le_of_ble_eq_true rfl) (by decide +kernel) rfl rfl (Nat.le_of_ble_eq_true rfl) (Nat.le_of_ble_eq_true rfl) wcd_ld_16 ?_
  refine wt_bn_putr (kf := 1) hE [(0, 2)] hR.2.1 wt_cf0 rfl (Nat.le_of_ble_eq_true rfl) rfl rfl (wt_g1 85 rfl rfl) (fun _ => rfl) (fun _ => rfl) wt_L12 rfl (Nat.le_of_ble_eq_true rfl) (Nat.le_of_ble_eq_true rfl) (by decide +kernel) wcd_ld_18 ?_
  refine wt_bn_aload_n hE wcd_ld_21 rfl ?_
  refine wt_bn_bipush hE (26 : Int32) wcd_ld_22 wt_cb_26 ?_
  refine wt_bn_newarr (N := 26) hE [(12, 2)] (wt_g1 69 rfl rfl) wt_L15 wt_cn_26.1 wt_cn_26.2 (Nat.le_of_ble_eq_true rfl) (by decide +kernel) rfl rfl (Nat.le_of_ble_eq_true rfl) (Nat.le_of_ble_eq_true rfl) wcd_ld_24 ?_
  refine wt_bn_putr (kf := 2) hE [(0, 2)] hR.2.1 wt_cf0 rfl (Nat.le_of_ble_eq_true rfl) rfl rfl (wt_g1 87 rfl rfl) (fun _ => rfl) (fun _ => rfl) wt_L12 rfl (Nat.le_of_ble_eq_true rfl) (Nat.le_of_ble_eq_true rfl) (by decide +kernel) wcd_ld_26 ?_
  refine wt_bn_aload_n hE wcd_ld_29 rfl ?_
  refine wt_bn_sipush hE (312 : Int32) wcd_ld_30 wt_cs_312 ?_
  refine wt_bn_newarr (N := 312) hE [(12, 3)] (wt_g1 69 rfl rfl) wt_L16 wt_cn_312.1 wt_cn_312.2 (Nat.le_of_ble_eq_true rfl) (by decide +kernel) rfl rfl (Nat.le_of_ble_eq_true rfl) (Nat.le_of_ble_eq_true rfl) wcd_ld_33 ?_
  refine wt_bn_putr (kf := 3) hE [(0, 2)] hR.2.1 wt_cf0 rfl (Nat.le_of_ble_eq_true rfl) rfl rfl (wt_g1 90 rfl rfl) (fun _ => rfl) (fun _ => rfl) wt_L12 rfl (Nat.le_of_ble_eq_true rfl) (Nat.le_of_ble_eq_true rfl) (by decide +kernel) wcd_ld_35 ?_
  refine wt_bn_aload_n hE wcd_ld_38 rfl ?_
  refine wt_bn_bipush hE (26 : Int32) wcd_ld_39 wt_cb_26 ?_
  refine wt_bn_newarr (N := 26) hE [(12, 4)] (wt_g1 69 rfl rfl) wt_L17 wt_cn_26.1 wt_cn_26.2 (Nat.le_of_ble_eq_true rfl) (by decide +kernel) rfl rfl (Nat.le_of_ble_eq_true rfl) (Nat.le_of_ble_eq_true rfl) wcd_ld_41 ?_
  refine wt_bn_putr (kf := 4) hE [(0, 2)] hR.2.1 wt_cf0 rfl (Nat.le_of_ble_eq_true rfl) rfl rfl (wt_g1 91 rfl rfl) (fun _ => rfl) (fun _ => rfl) wt_L12 rfl (Nat.le_of_ble_eq_true rfl) (Nat.le_of_ble_eq_true rfl) (by decide +kernel) wcd_ld_43 ?_
  refine wt_bn_aload_n hE wcd_ld_46 rfl ?_
  refine wt_bn_bipush hE (26 : Int32) wcd_ld_47 wt_cb_26 ?_
  refine wt_bn_newarr (N := 26) hE [(12, 5)] (wt_g1 69 rfl rfl) wt_L18 wt_cn_26.1 wt_cn_26.2 (Nat.le_of_ble_eq_true rfl) (by decide +kernel) rfl rfl (Nat.le_of_ble_eq_true rfl) (Nat.le_of_ble_eq_true rfl) wcd_ld_49 ?_
  refine wt_bn_putr (kf := 5) hE [(0, 2)] hR.2.1 wt_cf0 rfl (Nat.le_of_ble_eq_true rfl) rfl rfl (wt_g1 94 rfl rfl) (fun _ => rfl) (fun _ => rfl) wt_L12 rfl (Nat.le_of_ble_eq_true rfl) (Nat.le_of_ble_eq_true rfl) (by decide +kernel) wcd_ld_51 ?_
  refine wt_bn_aload_n hE wcd_ld_54 rfl ?_
  refine wt_bn_iconst hE (4 : Int32) wcd_ld_55 wt_ci_4 ?_
  refine wt_bn_newarr (N := 4) hE [(12, 6)] (wt_g1 69 rfl rfl) wt_L19 wt_cn_4.1 wt_cn_4.2 (Nat.le_of_ble_eq_true rfl) (by decide +kernel) rfl rfl (Nat.le_of_ble_eq_true rfl) (Nat.le_of_ble_eq_true rfl) wcd_ld_56 ?_
  refine wt_bn_putr (kf := 6) hE [(0, 2)] hR.2.1 wt_cf0 rfl (Nat.le_of_ble_eq_true rfl) rfl rfl (wt_g1 97 rfl rfl) (fun _ => rfl) (fun _ => rfl) wt_L12 rfl (Nat.le_of_ble_eq_true rfl) (Nat.le_of_ble_eq_true rfl) (by decide +kernel) wcd_ld_58 ?_
  refine wt_bn_aload_n hE wcd_ld_61 rfl ?_
  refine wt_bn_callV hE (fun i => 12 ≤ i ∧ i < 20) (wt_whole_of (by decide +kernel)) wt_lm_ld_33 wt_ya_ld_clear (As := []) (fun ad => wp_ld_clear_ok (w := wt_at (wt_xw X) ad (fun i => 12 ≤ i ∧ i < 20)) wt_isLead_12 (fun j hj => (⟨by omega, by omega⟩ : 12 ≤ 12 + j ∧ 12 + j < 20)) hc_0) (by omega) ⟨by decide, by decide⟩ wt_L12 rfl rfl rfl (by decide) (Nat.le_of_ble_eq_true rfl) hf_1 hz1 (Nat.le_of_ble_eq_true rfl) wcd_ld_62 ?_
  exact wt_bn_ret (k0 := 46) hE hR (Nat.le_of_ble_eq_true rfl) (Nat.le_of_ble_eq_true rfl) wcd_ld_65
def wb52ctr_prog_9_method_1_code_r1 : List (List Nat) := [42, 16, 60, 188, 10, 181, 0, 21, 42, 16, 20, 188, 10, 181, 0, 24, 42, 16, 20, 188, 10, 181, 0, 27, 177] :: []
def wb52ctr_prog_9_method_1_code_r0 : List (List Nat) := [42, 183, 0, 3, 42, 17, 2, 28, 188, 10, 181, 0, 9, 42, 16, 60, 188, 10, 181, 0, 15, 42, 16, 60, 188, 10, 181, 0, 18] :: wb52ctr_prog_9_method_1_code_r1
set_option maxRecDepth 100000 in
theorem wb52ctr_prog_9_method_1_code_c0 : wt_cs prog_9_method_1_code 0 wb52ctr_prog_9_method_1_code_r0 := wt_cs_of (by decide +kernel)
theorem wb52ctr_prog_9_method_1_code_c1 : wt_cs prog_9_method_1_code 29 wb52ctr_prog_9_method_1_code_r1 := wt_cs_tl (m := 29) wb52ctr_prog_9_method_1_code_c0 rfl rfl
theorem wcd_tg_0 : decode prog_9_method_1_code 0 = .ok (.aload_n 0, 1) := wt_op42 wb52ctr_prog_9_method_1_code_c0 0 rfl rfl
theorem wcd_tg_1 : decode prog_9_method_1_code 1 = .ok (.invokespecial 3, 3) := wt_op183 wb52ctr_prog_9_method_1_code_c0 1 rfl rfl rfl
theorem wcd_tg_4 : decode prog_9_method_1_code 4 = .ok (.aload_n 0, 1) := wt_op42 wb52ctr_prog_9_method_1_code_c0 4 rfl rfl
theorem wcd_tg_5 : decode prog_9_method_1_code 5 = .ok (.sipush 540, 3) := wt_op17 wb52ctr_prog_9_method_1_code_c0 5 rfl rfl rfl
theorem wcd_tg_8 : decode prog_9_method_1_code 8 = .ok (.newarray .int, 2) := wt_op188 wb52ctr_prog_9_method_1_code_c0 8 rfl rfl
theorem wcd_tg_10 : decode prog_9_method_1_code 10 = .ok (.putfield 9, 3) := wt_op181 wb52ctr_prog_9_method_1_code_c0 10 rfl rfl rfl
theorem wcd_tg_13 : decode prog_9_method_1_code 13 = .ok (.aload_n 0, 1) := wt_op42 wb52ctr_prog_9_method_1_code_c0 13 rfl rfl
theorem wcd_tg_14 : decode prog_9_method_1_code 14 = .ok (.bipush 60, 2) := wt_op16 wb52ctr_prog_9_method_1_code_c0 14 rfl rfl rfl
theorem wcd_tg_16 : decode prog_9_method_1_code 16 = .ok (.newarray .int, 2) := wt_op188 wb52ctr_prog_9_method_1_code_c0 16 rfl rfl
theorem wcd_tg_18 : decode prog_9_method_1_code 18 = .ok (.putfield 15, 3) := wt_op181 wb52ctr_prog_9_method_1_code_c0 18 rfl rfl rfl
theorem wcd_tg_21 : decode prog_9_method_1_code 21 = .ok (.aload_n 0, 1) := wt_op42 wb52ctr_prog_9_method_1_code_c0 21 rfl rfl
theorem wcd_tg_22 : decode prog_9_method_1_code 22 = .ok (.bipush 60, 2) := wt_op16 wb52ctr_prog_9_method_1_code_c0 22 rfl rfl rfl
theorem wcd_tg_24 : decode prog_9_method_1_code 24 = .ok (.newarray .int, 2) := wt_op188 wb52ctr_prog_9_method_1_code_c0 24 rfl rfl
theorem wcd_tg_26 : decode prog_9_method_1_code 26 = .ok (.putfield 18, 3) := wt_op181 wb52ctr_prog_9_method_1_code_c0 26 rfl rfl rfl
theorem wcd_tg_29 : decode prog_9_method_1_code 29 = .ok (.aload_n 0, 1) := wt_op42 wb52ctr_prog_9_method_1_code_c1 0 rfl rfl
theorem wcd_tg_30 : decode prog_9_method_1_code 30 = .ok (.bipush 60, 2) := wt_op16 wb52ctr_prog_9_method_1_code_c1 1 rfl rfl rfl
theorem wcd_tg_32 : decode prog_9_method_1_code 32 = .ok (.newarray .int, 2) := wt_op188 wb52ctr_prog_9_method_1_code_c1 3 rfl rfl
theorem wcd_tg_34 : decode prog_9_method_1_code 34 = .ok (.putfield 21, 3) := wt_op181 wb52ctr_prog_9_method_1_code_c1 5 rfl rfl rfl
theorem wcd_tg_37 : decode prog_9_method_1_code 37 = .ok (.aload_n 0, 1) := wt_op42 wb52ctr_prog_9_method_1_code_c1 8 rfl rfl
theorem wcd_tg_38 : decode prog_9_method_1_code 38 = .ok (.bipush 20, 2) := wt_op16 wb52ctr_prog_9_method_1_code_c1 9 rfl rfl rfl
theorem wcd_tg_40 : decode prog_9_method_1_code 40 = .ok (.newarray .int, 2) := wt_op188 wb52ctr_prog_9_method_1_code_c1 11 rfl rfl
theorem wcd_tg_42 : decode prog_9_method_1_code 42 = .ok (.putfield 24, 3) := wt_op181 wb52ctr_prog_9_method_1_code_c1 13 rfl rfl rfl
theorem wcd_tg_45 : decode prog_9_method_1_code 45 = .ok (.aload_n 0, 1) := wt_op42 wb52ctr_prog_9_method_1_code_c1 16 rfl rfl
theorem wcd_tg_46 : decode prog_9_method_1_code 46 = .ok (.bipush 20, 2) := wt_op16 wb52ctr_prog_9_method_1_code_c1 17 rfl rfl rfl
theorem wcd_tg_48 : decode prog_9_method_1_code 48 = .ok (.newarray .int, 2) := wt_op188 wb52ctr_prog_9_method_1_code_c1 19 rfl rfl
theorem wcd_tg_50 : decode prog_9_method_1_code 50 = .ok (.putfield 27, 3) := wt_op181 wb52ctr_prog_9_method_1_code_c1 21 rfl rfl rfl
theorem wcd_tg_53 : decode prog_9_method_1_code 53 = .ok (.return_, 1) := wt_op177 wb52ctr_prog_9_method_1_code_c1 24 rfl rfl
set_option maxRecDepth 100000 in
set_option maxHeartbeats 4000000 in
theorem wc_tg_20_z {σ : wt_St} (hz0 : wt_zero σ 21) : wt_zero σ 27 := by

  exact hz0.mono (by decide)
set_option maxRecDepth 100000 in
set_option maxHeartbeats 40000000 in
theorem wc_tg_20 {l : Launch} {w : wt_E} {σ : wt_St} (hdm : ∀ i, wt_dom w i ↔ i < 21) (hz0 : wt_zero σ 21) : wt_CtrB wt_SA l w wt_y_tg_init prog_9_method_1_code 1 1 48 [.inr 20] 21 27 [(0, 3)] [(0, 3)] σ σ := by

  refine wt_ctrB hdm hz0 wt_pl_tg_init rfl (Nat.le_of_ble_eq_true rfl) [some (.inr 20)] rfl ?_
  intro X hXl hXw hE hR hSA
  subst hXl
  subst hXw
  have hE : wt_Ok X prog_9_method_1_code 1 "WornType$Tongue" 1 48 := hE
  refine wt_bn_aload_n hE wcd_tg_0 rfl ?_
  refine wt_bn_obj hE (wt_g1 123 rfl rfl) (wt_g1 31 rfl rfl) (wt_g1 32 rfl rfl) (by omega) (by decide) wcd_tg_1 ?_
  refine wt_bn_aload_n hE wcd_tg_4 rfl ?_
  refine wt_bn_sipush hE (540 : Int32) wcd_tg_5 wt_cs_540 ?_
  refine wt_bn_newarr (N := 540) hE [(20, 0)] (wt_g1 69 rfl rfl) wt_L21 wt_cn_540.1 wt_cn_540.2 (Nat.le_of_ble_eq_true rfl) (by decide +kernel) rfl rfl (Nat.le_of_ble_eq_true rfl) (Nat.le_of_ble_eq_true rfl) wcd_tg_8 ?_
  refine wt_bn_putr (kf := 0) hE [(0, 3)] hR.2.1 wt_cf7 rfl (Nat.le_of_ble_eq_true rfl) rfl rfl (wt_g1 124 rfl rfl) (fun _ => rfl) (fun _ => rfl) wt_L20 rfl (Nat.le_of_ble_eq_true rfl) (Nat.le_of_ble_eq_true rfl) (by decide +kernel) wcd_tg_10 ?_
  refine wt_bn_aload_n hE wcd_tg_13 rfl ?_
  refine wt_bn_bipush hE (60 : Int32) wcd_tg_14 wt_cb_60 ?_
  refine wt_bn_newarr (N := 60) hE [(20, 1)] (wt_g1 69 rfl rfl) wt_L22 wt_cn_60.1 wt_cn_60.2 (Nat.le_of_ble_eq_true rfl) (by decide +kernel) rfl rfl (Nat.le_of_ble_eq_true rfl) (Nat.le_of_ble_eq_true rfl) wcd_tg_16 ?_
  refine wt_bn_putr (kf := 1) hE [(0, 3)] hR.2.1 wt_cf7 rfl (Nat.le_of_ble_eq_true rfl) rfl rfl (wt_g1 125 rfl rfl) (fun _ => rfl) (fun _ => rfl) wt_L20 rfl (Nat.le_of_ble_eq_true rfl) (Nat.le_of_ble_eq_true rfl) (by decide +kernel) wcd_tg_18 ?_
  refine wt_bn_aload_n hE wcd_tg_21 rfl ?_
  refine wt_bn_bipush hE (60 : Int32) wcd_tg_22 wt_cb_60 ?_
  refine wt_bn_newarr (N := 60) hE [(20, 2)] (wt_g1 69 rfl rfl) wt_L23 wt_cn_60.1 wt_cn_60.2 (Nat.le_of_ble_eq_true rfl) (by decide +kernel) rfl rfl (Nat.le_of_ble_eq_true rfl) (Nat.le_of_ble_eq_true rfl) wcd_tg_24 ?_
  refine wt_bn_putr (kf := 2) hE [(0, 3)] hR.2.1 wt_cf7 rfl (Nat.le_of_ble_eq_true rfl) rfl rfl (wt_g1 129 rfl rfl) (fun _ => rfl) (fun _ => rfl) wt_L20 rfl (Nat.le_of_ble_eq_true rfl) (Nat.le_of_ble_eq_true rfl) (by decide +kernel) wcd_tg_26 ?_
  refine wt_bn_aload_n hE wcd_tg_29 rfl ?_
  refine wt_bn_bipush hE (60 : Int32) wcd_tg_30 wt_cb_60 ?_
  refine wt_bn_newarr (N := 60) hE [(20, 3)] (wt_g1 69 rfl rfl) wt_L24 wt_cn_60.1 wt_cn_60.2 (Nat.le_of_ble_eq_true rfl) (by decide +kernel) rfl rfl (Nat.le_of_ble_eq_true rfl) (Nat.le_of_ble_eq_true rfl) wcd_tg_32 ?_
  refine wt_bn_putr (kf := 3) hE [(0, 3)] hR.2.1 wt_cf7 rfl (Nat.le_of_ble_eq_true rfl) rfl rfl (wt_g1 132 rfl rfl) (fun _ => rfl) (fun _ => rfl) wt_L20 rfl (Nat.le_of_ble_eq_true rfl) (Nat.le_of_ble_eq_true rfl) (by decide +kernel) wcd_tg_34 ?_
  refine wt_bn_aload_n hE wcd_tg_37 rfl ?_
  refine wt_bn_bipush hE (20 : Int32) wcd_tg_38 wt_cb_20 ?_
  refine wt_bn_newarr (N := 20) hE [(20, 4)] (wt_g1 69 rfl rfl) wt_L25 wt_cn_20.1 wt_cn_20.2 (Nat.le_of_ble_eq_true rfl) (by decide +kernel) rfl rfl (Nat.le_of_ble_eq_true rfl) (Nat.le_of_ble_eq_true rfl) wcd_tg_40 ?_
  refine wt_bn_putr (kf := 4) hE [(0, 3)] hR.2.1 wt_cf7 rfl (Nat.le_of_ble_eq_true rfl) rfl rfl (wt_g1 134 rfl rfl) (fun _ => rfl) (fun _ => rfl) wt_L20 rfl (Nat.le_of_ble_eq_true rfl) (Nat.le_of_ble_eq_true rfl) (by decide +kernel) wcd_tg_42 ?_
  refine wt_bn_aload_n hE wcd_tg_45 rfl ?_
  refine wt_bn_bipush hE (20 : Int32) wcd_tg_46 wt_cb_20 ?_
  refine wt_bn_newarr (N := 20) hE [(20, 5)] (wt_g1 69 rfl rfl) wt_L26 wt_cn_20.1 wt_cn_20.2 (Nat.le_of_ble_eq_true rfl) (by decide +kernel) rfl rfl (Nat.le_of_ble_eq_true rfl) (Nat.le_of_ble_eq_true rfl) wcd_tg_48 ?_
  refine wt_bn_putr (kf := 5) hE [(0, 3)] hR.2.1 wt_cf7 rfl (Nat.le_of_ble_eq_true rfl) rfl rfl (wt_g1 135 rfl rfl) (fun _ => rfl) (fun _ => rfl) wt_L20 rfl (Nat.le_of_ble_eq_true rfl) (Nat.le_of_ble_eq_true rfl) (by decide +kernel) wcd_tg_50 ?_
  exact wt_bn_ret (k0 := 48) hE hR (Nat.le_of_ble_eq_true rfl) (Nat.le_of_ble_eq_true rfl) wcd_tg_53
set_option maxRecDepth 100000 in
set_option maxHeartbeats 4000000 in
theorem wc_tg_27_z {σ : wt_St} (hz0 : wt_zero σ 28) : wt_zero σ 34 := by

  exact hz0.mono (by decide)
set_option maxRecDepth 100000 in
set_option maxHeartbeats 40000000 in
theorem wc_tg_27 {l : Launch} {w : wt_E} {σ : wt_St} (hdm : ∀ i, wt_dom w i ↔ i < 28) (hz0 : wt_zero σ 28) : wt_CtrB wt_SA l w wt_y_tg_init prog_9_method_1_code 1 1 48 [.inr 27] 28 34 [(0, 4)] [(0, 4)] σ σ := by

  refine wt_ctrB hdm hz0 wt_pl_tg_init rfl (Nat.le_of_ble_eq_true rfl) [some (.inr 27)] rfl ?_
  intro X hXl hXw hE hR hSA
  subst hXl
  subst hXw
  have hE : wt_Ok X prog_9_method_1_code 1 "WornType$Tongue" 1 48 := hE
  refine wt_bn_aload_n hE wcd_tg_0 rfl ?_
  refine wt_bn_obj hE (wt_g1 123 rfl rfl) (wt_g1 31 rfl rfl) (wt_g1 32 rfl rfl) (by omega) (by decide) wcd_tg_1 ?_
  refine wt_bn_aload_n hE wcd_tg_4 rfl ?_
  refine wt_bn_sipush hE (540 : Int32) wcd_tg_5 wt_cs_540 ?_
  refine wt_bn_newarr (N := 540) hE [(27, 0)] (wt_g1 69 rfl rfl) wt_L28 wt_cn_540.1 wt_cn_540.2 (Nat.le_of_ble_eq_true rfl) (by decide +kernel) rfl rfl (Nat.le_of_ble_eq_true rfl) (Nat.le_of_ble_eq_true rfl) wcd_tg_8 ?_
  refine wt_bn_putr (kf := 0) hE [(0, 4)] hR.2.1 wt_cf7 rfl (Nat.le_of_ble_eq_true rfl) rfl rfl (wt_g1 124 rfl rfl) (fun _ => rfl) (fun _ => rfl) wt_L27 rfl (Nat.le_of_ble_eq_true rfl) (Nat.le_of_ble_eq_true rfl) (by decide +kernel) wcd_tg_10 ?_
  refine wt_bn_aload_n hE wcd_tg_13 rfl ?_
  refine wt_bn_bipush hE (60 : Int32) wcd_tg_14 wt_cb_60 ?_
  refine wt_bn_newarr (N := 60) hE [(27, 1)] (wt_g1 69 rfl rfl) wt_L29 wt_cn_60.1 wt_cn_60.2 (Nat.le_of_ble_eq_true rfl) (by decide +kernel) rfl rfl (Nat.le_of_ble_eq_true rfl) (Nat.le_of_ble_eq_true rfl) wcd_tg_16 ?_
  refine wt_bn_putr (kf := 1) hE [(0, 4)] hR.2.1 wt_cf7 rfl (Nat.le_of_ble_eq_true rfl) rfl rfl (wt_g1 125 rfl rfl) (fun _ => rfl) (fun _ => rfl) wt_L27 rfl (Nat.le_of_ble_eq_true rfl) (Nat.le_of_ble_eq_true rfl) (by decide +kernel) wcd_tg_18 ?_
  refine wt_bn_aload_n hE wcd_tg_21 rfl ?_
  refine wt_bn_bipush hE (60 : Int32) wcd_tg_22 wt_cb_60 ?_
  refine wt_bn_newarr (N := 60) hE [(27, 2)] (wt_g1 69 rfl rfl) wt_L30 wt_cn_60.1 wt_cn_60.2 (Nat.le_of_ble_eq_true rfl) (by decide +kernel) rfl rfl (Nat.le_of_ble_eq_true rfl) (Nat.le_of_ble_eq_true rfl) wcd_tg_24 ?_
  refine wt_bn_putr (kf := 2) hE [(0, 4)] hR.2.1 wt_cf7 rfl (Nat.le_of_ble_eq_true rfl) rfl rfl (wt_g1 129 rfl rfl) (fun _ => rfl) (fun _ => rfl) wt_L27 rfl (Nat.le_of_ble_eq_true rfl) (Nat.le_of_ble_eq_true rfl) (by decide +kernel) wcd_tg_26 ?_
  refine wt_bn_aload_n hE wcd_tg_29 rfl ?_
  refine wt_bn_bipush hE (60 : Int32) wcd_tg_30 wt_cb_60 ?_
  refine wt_bn_newarr (N := 60) hE [(27, 3)] (wt_g1 69 rfl rfl) wt_L31 wt_cn_60.1 wt_cn_60.2 (Nat.le_of_ble_eq_true rfl) (by decide +kernel) rfl rfl (Nat.le_of_ble_eq_true rfl) (Nat.le_of_ble_eq_true rfl) wcd_tg_32 ?_
  refine wt_bn_putr (kf := 3) hE [(0, 4)] hR.2.1 wt_cf7 rfl (Nat.le_of_ble_eq_true rfl) rfl rfl (wt_g1 132 rfl rfl) (fun _ => rfl) (fun _ => rfl) wt_L27 rfl (Nat.le_of_ble_eq_true rfl) (Nat.le_of_ble_eq_true rfl) (by decide +kernel) wcd_tg_34 ?_
  refine wt_bn_aload_n hE wcd_tg_37 rfl ?_
  refine wt_bn_bipush hE (20 : Int32) wcd_tg_38 wt_cb_20 ?_
  refine wt_bn_newarr (N := 20) hE [(27, 4)] (wt_g1 69 rfl rfl) wt_L32 wt_cn_20.1 wt_cn_20.2 (Nat.le_of_ble_eq_true rfl) (by decide +kernel) rfl rfl (Nat.le_of_ble_eq_true rfl) (Nat.le_of_ble_eq_true rfl) wcd_tg_40 ?_
  refine wt_bn_putr (kf := 4) hE [(0, 4)] hR.2.1 wt_cf7 rfl (Nat.le_of_ble_eq_true rfl) rfl rfl (wt_g1 134 rfl rfl) (fun _ => rfl) (fun _ => rfl) wt_L27 rfl (Nat.le_of_ble_eq_true rfl) (Nat.le_of_ble_eq_true rfl) (by decide +kernel) wcd_tg_42 ?_
  refine wt_bn_aload_n hE wcd_tg_45 rfl ?_
  refine wt_bn_bipush hE (20 : Int32) wcd_tg_46 wt_cb_20 ?_
  refine wt_bn_newarr (N := 20) hE [(27, 5)] (wt_g1 69 rfl rfl) wt_L33 wt_cn_20.1 wt_cn_20.2 (Nat.le_of_ble_eq_true rfl) (by decide +kernel) rfl rfl (Nat.le_of_ble_eq_true rfl) (Nat.le_of_ble_eq_true rfl) wcd_tg_48 ?_
  refine wt_bn_putr (kf := 5) hE [(0, 4)] hR.2.1 wt_cf7 rfl (Nat.le_of_ble_eq_true rfl) rfl rfl (wt_g1 135 rfl rfl) (fun _ => rfl) (fun _ => rfl) wt_L27 rfl (Nat.le_of_ble_eq_true rfl) (Nat.le_of_ble_eq_true rfl) (by decide +kernel) wcd_tg_50 ?_
  exact wt_bn_ret (k0 := 48) hE hR (Nat.le_of_ble_eq_true rfl) (Nat.le_of_ble_eq_true rfl) wcd_tg_53
def wb52ctr_prog_8_method_1_code_r1 : List (List Nat) := [42, 16, 26, 188, 10, 181, 0, 21, 177] :: []
def wb52ctr_prog_8_method_1_code_r0 : List (List Nat) := [42, 183, 0, 3, 42, 16, 96, 188, 10, 181, 0, 9, 42, 16, 8, 188, 10, 181, 0, 15, 42, 17, 0, 208, 188, 10, 181, 0, 18] :: wb52ctr_prog_8_method_1_code_r1
set_option maxRecDepth 100000 in
theorem wb52ctr_prog_8_method_1_code_c0 : wt_cs prog_8_method_1_code 0 wb52ctr_prog_8_method_1_code_r0 := wt_cs_of (by decide +kernel)
theorem wb52ctr_prog_8_method_1_code_c1 : wt_cs prog_8_method_1_code 29 wb52ctr_prog_8_method_1_code_r1 := wt_cs_tl (m := 29) wb52ctr_prog_8_method_1_code_c0 rfl rfl
theorem wcd_tx_0 : decode prog_8_method_1_code 0 = .ok (.aload_n 0, 1) := wt_op42 wb52ctr_prog_8_method_1_code_c0 0 rfl rfl
theorem wcd_tx_1 : decode prog_8_method_1_code 1 = .ok (.invokespecial 3, 3) := wt_op183 wb52ctr_prog_8_method_1_code_c0 1 rfl rfl rfl
theorem wcd_tx_4 : decode prog_8_method_1_code 4 = .ok (.aload_n 0, 1) := wt_op42 wb52ctr_prog_8_method_1_code_c0 4 rfl rfl
theorem wcd_tx_5 : decode prog_8_method_1_code 5 = .ok (.bipush 96, 2) := wt_op16 wb52ctr_prog_8_method_1_code_c0 5 rfl rfl rfl
theorem wcd_tx_7 : decode prog_8_method_1_code 7 = .ok (.newarray .int, 2) := wt_op188 wb52ctr_prog_8_method_1_code_c0 7 rfl rfl
theorem wcd_tx_9 : decode prog_8_method_1_code 9 = .ok (.putfield 9, 3) := wt_op181 wb52ctr_prog_8_method_1_code_c0 9 rfl rfl rfl
theorem wcd_tx_12 : decode prog_8_method_1_code 12 = .ok (.aload_n 0, 1) := wt_op42 wb52ctr_prog_8_method_1_code_c0 12 rfl rfl
theorem wcd_tx_13 : decode prog_8_method_1_code 13 = .ok (.bipush 8, 2) := wt_op16 wb52ctr_prog_8_method_1_code_c0 13 rfl rfl rfl
theorem wcd_tx_15 : decode prog_8_method_1_code 15 = .ok (.newarray .int, 2) := wt_op188 wb52ctr_prog_8_method_1_code_c0 15 rfl rfl
theorem wcd_tx_17 : decode prog_8_method_1_code 17 = .ok (.putfield 15, 3) := wt_op181 wb52ctr_prog_8_method_1_code_c0 17 rfl rfl rfl
theorem wcd_tx_20 : decode prog_8_method_1_code 20 = .ok (.aload_n 0, 1) := wt_op42 wb52ctr_prog_8_method_1_code_c0 20 rfl rfl
theorem wcd_tx_21 : decode prog_8_method_1_code 21 = .ok (.sipush 208, 3) := wt_op17 wb52ctr_prog_8_method_1_code_c0 21 rfl rfl rfl
theorem wcd_tx_24 : decode prog_8_method_1_code 24 = .ok (.newarray .int, 2) := wt_op188 wb52ctr_prog_8_method_1_code_c0 24 rfl rfl
theorem wcd_tx_26 : decode prog_8_method_1_code 26 = .ok (.putfield 18, 3) := wt_op181 wb52ctr_prog_8_method_1_code_c0 26 rfl rfl rfl
theorem wcd_tx_29 : decode prog_8_method_1_code 29 = .ok (.aload_n 0, 1) := wt_op42 wb52ctr_prog_8_method_1_code_c1 0 rfl rfl
theorem wcd_tx_30 : decode prog_8_method_1_code 30 = .ok (.bipush 26, 2) := wt_op16 wb52ctr_prog_8_method_1_code_c1 1 rfl rfl rfl
theorem wcd_tx_32 : decode prog_8_method_1_code 32 = .ok (.newarray .int, 2) := wt_op188 wb52ctr_prog_8_method_1_code_c1 3 rfl rfl
theorem wcd_tx_34 : decode prog_8_method_1_code 34 = .ok (.putfield 21, 3) := wt_op181 wb52ctr_prog_8_method_1_code_c1 5 rfl rfl rfl
theorem wcd_tx_37 : decode prog_8_method_1_code 37 = .ok (.return_, 1) := wt_op177 wb52ctr_prog_8_method_1_code_c1 8 rfl rfl
set_option maxRecDepth 100000 in
set_option maxHeartbeats 4000000 in
theorem wc_tx_34_z {σ : wt_St} (hz0 : wt_zero σ 35) : wt_zero σ 39 := by

  exact hz0.mono (by decide)
set_option maxRecDepth 100000 in
set_option maxHeartbeats 40000000 in
theorem wc_tx_34 {l : Launch} {w : wt_E} {σ : wt_St} (hdm : ∀ i, wt_dom w i ↔ i < 35) (hz0 : wt_zero σ 35) : wt_CtrB wt_SA l w wt_y_tx_init prog_8_method_1_code 1 1 22 [.inr 34] 35 39 [(0, 5)] [(0, 5)] σ σ := by

  refine wt_ctrB hdm hz0 wt_pl_tx_init rfl (Nat.le_of_ble_eq_true rfl) [some (.inr 34)] rfl ?_
  intro X hXl hXw hE hR hSA
  subst hXl
  subst hXw
  have hE : wt_Ok X prog_8_method_1_code 1 "WornType$Texts" 1 22 := hE
  refine wt_bn_aload_n hE wcd_tx_0 rfl ?_
  refine wt_bn_obj hE (wt_g1 163 rfl rfl) (wt_g1 31 rfl rfl) (wt_g1 32 rfl rfl) (by omega) (by decide) wcd_tx_1 ?_
  refine wt_bn_aload_n hE wcd_tx_4 rfl ?_
  refine wt_bn_bipush hE (96 : Int32) wcd_tx_5 wt_cb_96 ?_
  refine wt_bn_newarr (N := 96) hE [(34, 0)] (wt_g1 69 rfl rfl) wt_L35 wt_cn_96.1 wt_cn_96.2 (Nat.le_of_ble_eq_true rfl) (by decide +kernel) rfl rfl (Nat.le_of_ble_eq_true rfl) (Nat.le_of_ble_eq_true rfl) wcd_tx_7 ?_
  refine wt_bn_putr (kf := 0) hE [(0, 5)] hR.2.1 wt_cf6 rfl (Nat.le_of_ble_eq_true rfl) rfl rfl (wt_g1 164 rfl rfl) (fun _ => rfl) (fun _ => rfl) wt_L34 rfl (Nat.le_of_ble_eq_true rfl) (Nat.le_of_ble_eq_true rfl) (by decide +kernel) wcd_tx_9 ?_
  refine wt_bn_aload_n hE wcd_tx_12 rfl ?_
  refine wt_bn_bipush hE (8 : Int32) wcd_tx_13 wt_cb_8 ?_
  refine wt_bn_newarr (N := 8) hE [(34, 1)] (wt_g1 69 rfl rfl) wt_L36 wt_cn_8.1 wt_cn_8.2 (Nat.le_of_ble_eq_true rfl) (by decide +kernel) rfl rfl (Nat.le_of_ble_eq_true rfl) (Nat.le_of_ble_eq_true rfl) wcd_tx_15 ?_
  refine wt_bn_putr (kf := 1) hE [(0, 5)] hR.2.1 wt_cf6 rfl (Nat.le_of_ble_eq_true rfl) rfl rfl (wt_g1 165 rfl rfl) (fun _ => rfl) (fun _ => rfl) wt_L34 rfl (Nat.le_of_ble_eq_true rfl) (Nat.le_of_ble_eq_true rfl) (by decide +kernel) wcd_tx_17 ?_
  refine wt_bn_aload_n hE wcd_tx_20 rfl ?_
  refine wt_bn_sipush hE (208 : Int32) wcd_tx_21 wt_cs_208 ?_
  refine wt_bn_newarr (N := 208) hE [(34, 2)] (wt_g1 69 rfl rfl) wt_L37 wt_cn_208.1 wt_cn_208.2 (Nat.le_of_ble_eq_true rfl) (by decide +kernel) rfl rfl (Nat.le_of_ble_eq_true rfl) (Nat.le_of_ble_eq_true rfl) wcd_tx_24 ?_
  refine wt_bn_putr (kf := 2) hE [(0, 5)] hR.2.1 wt_cf6 rfl (Nat.le_of_ble_eq_true rfl) rfl rfl (wt_g1 166 rfl rfl) (fun _ => rfl) (fun _ => rfl) wt_L34 rfl (Nat.le_of_ble_eq_true rfl) (Nat.le_of_ble_eq_true rfl) (by decide +kernel) wcd_tx_26 ?_
  refine wt_bn_aload_n hE wcd_tx_29 rfl ?_
  refine wt_bn_bipush hE (26 : Int32) wcd_tx_30 wt_cb_26 ?_
  refine wt_bn_newarr (N := 26) hE [(34, 3)] (wt_g1 69 rfl rfl) wt_L38 wt_cn_26.1 wt_cn_26.2 (Nat.le_of_ble_eq_true rfl) (by decide +kernel) rfl rfl (Nat.le_of_ble_eq_true rfl) (Nat.le_of_ble_eq_true rfl) wcd_tx_32 ?_
  refine wt_bn_putr (kf := 3) hE [(0, 5)] hR.2.1 wt_cf6 rfl (Nat.le_of_ble_eq_true rfl) rfl rfl (wt_g1 167 rfl rfl) (fun _ => rfl) (fun _ => rfl) wt_L34 rfl (Nat.le_of_ble_eq_true rfl) (Nat.le_of_ble_eq_true rfl) (by decide +kernel) wcd_tx_34 ?_
  exact wt_bn_ret (k0 := 22) hE hR (Nat.le_of_ble_eq_true rfl) (Nat.le_of_ble_eq_true rfl) wcd_tx_37
def wb52ctr_prog_5_method_1_code_r2 : List (List Nat) := [188, 10, 181, 0, 30, 42, 16, 10, 188, 10, 181, 0, 33, 42, 182, 0, 36, 177] :: []
def wb52ctr_prog_5_method_1_code_r1 : List (List Nat) := [181, 0, 18, 42, 7, 188, 10, 181, 0, 21, 42, 16, 10, 188, 10, 181, 0, 24, 42, 16, 10, 188, 10, 181, 0, 27, 42, 16, 10] :: wb52ctr_prog_5_method_1_code_r2
def wb52ctr_prog_5_method_1_code_r0 : List (List Nat) := [42, 183, 0, 3, 42, 17, 1, 56, 188, 10, 181, 0, 9, 42, 17, 1, 56, 188, 10, 181, 0, 15, 42, 17, 1, 56, 188, 10] :: wb52ctr_prog_5_method_1_code_r1
set_option maxRecDepth 100000 in
theorem wb52ctr_prog_5_method_1_code_c0 : wt_cs prog_5_method_1_code 0 wb52ctr_prog_5_method_1_code_r0 := wt_cs_of (by decide +kernel)
theorem wb52ctr_prog_5_method_1_code_c1 : wt_cs prog_5_method_1_code 28 wb52ctr_prog_5_method_1_code_r1 := wt_cs_tl (m := 28) wb52ctr_prog_5_method_1_code_c0 rfl rfl
theorem wb52ctr_prog_5_method_1_code_c2 : wt_cs prog_5_method_1_code 57 wb52ctr_prog_5_method_1_code_r2 := wt_cs_tl (m := 29) wb52ctr_prog_5_method_1_code_c1 rfl rfl
theorem wcd_st_0 : decode prog_5_method_1_code 0 = .ok (.aload_n 0, 1) := wt_op42 wb52ctr_prog_5_method_1_code_c0 0 rfl rfl
theorem wcd_st_1 : decode prog_5_method_1_code 1 = .ok (.invokespecial 3, 3) := wt_op183 wb52ctr_prog_5_method_1_code_c0 1 rfl rfl rfl
theorem wcd_st_4 : decode prog_5_method_1_code 4 = .ok (.aload_n 0, 1) := wt_op42 wb52ctr_prog_5_method_1_code_c0 4 rfl rfl
theorem wcd_st_5 : decode prog_5_method_1_code 5 = .ok (.sipush 312, 3) := wt_op17 wb52ctr_prog_5_method_1_code_c0 5 rfl rfl rfl
theorem wcd_st_8 : decode prog_5_method_1_code 8 = .ok (.newarray .int, 2) := wt_op188 wb52ctr_prog_5_method_1_code_c0 8 rfl rfl
theorem wcd_st_10 : decode prog_5_method_1_code 10 = .ok (.putfield 9, 3) := wt_op181 wb52ctr_prog_5_method_1_code_c0 10 rfl rfl rfl
theorem wcd_st_13 : decode prog_5_method_1_code 13 = .ok (.aload_n 0, 1) := wt_op42 wb52ctr_prog_5_method_1_code_c0 13 rfl rfl
theorem wcd_st_14 : decode prog_5_method_1_code 14 = .ok (.sipush 312, 3) := wt_op17 wb52ctr_prog_5_method_1_code_c0 14 rfl rfl rfl
theorem wcd_st_17 : decode prog_5_method_1_code 17 = .ok (.newarray .int, 2) := wt_op188 wb52ctr_prog_5_method_1_code_c0 17 rfl rfl
theorem wcd_st_19 : decode prog_5_method_1_code 19 = .ok (.putfield 15, 3) := wt_op181 wb52ctr_prog_5_method_1_code_c0 19 rfl rfl rfl
theorem wcd_st_22 : decode prog_5_method_1_code 22 = .ok (.aload_n 0, 1) := wt_op42 wb52ctr_prog_5_method_1_code_c0 22 rfl rfl
theorem wcd_st_23 : decode prog_5_method_1_code 23 = .ok (.sipush 312, 3) := wt_op17 wb52ctr_prog_5_method_1_code_c0 23 rfl rfl rfl
theorem wcd_st_26 : decode prog_5_method_1_code 26 = .ok (.newarray .int, 2) := wt_op188 wb52ctr_prog_5_method_1_code_c0 26 rfl rfl
theorem wcd_st_28 : decode prog_5_method_1_code 28 = .ok (.putfield 18, 3) := wt_op181 wb52ctr_prog_5_method_1_code_c1 0 rfl rfl rfl
theorem wcd_st_31 : decode prog_5_method_1_code 31 = .ok (.aload_n 0, 1) := wt_op42 wb52ctr_prog_5_method_1_code_c1 3 rfl rfl
theorem wcd_st_32 : decode prog_5_method_1_code 32 = .ok (.iconst 4, 1) := wt_op7 wb52ctr_prog_5_method_1_code_c1 4 rfl rfl
theorem wcd_st_33 : decode prog_5_method_1_code 33 = .ok (.newarray .int, 2) := wt_op188 wb52ctr_prog_5_method_1_code_c1 5 rfl rfl
theorem wcd_st_35 : decode prog_5_method_1_code 35 = .ok (.putfield 21, 3) := wt_op181 wb52ctr_prog_5_method_1_code_c1 7 rfl rfl rfl
theorem wcd_st_38 : decode prog_5_method_1_code 38 = .ok (.aload_n 0, 1) := wt_op42 wb52ctr_prog_5_method_1_code_c1 10 rfl rfl
theorem wcd_st_39 : decode prog_5_method_1_code 39 = .ok (.bipush 10, 2) := wt_op16 wb52ctr_prog_5_method_1_code_c1 11 rfl rfl rfl
theorem wcd_st_41 : decode prog_5_method_1_code 41 = .ok (.newarray .int, 2) := wt_op188 wb52ctr_prog_5_method_1_code_c1 13 rfl rfl
theorem wcd_st_43 : decode prog_5_method_1_code 43 = .ok (.putfield 24, 3) := wt_op181 wb52ctr_prog_5_method_1_code_c1 15 rfl rfl rfl
theorem wcd_st_46 : decode prog_5_method_1_code 46 = .ok (.aload_n 0, 1) := wt_op42 wb52ctr_prog_5_method_1_code_c1 18 rfl rfl
theorem wcd_st_47 : decode prog_5_method_1_code 47 = .ok (.bipush 10, 2) := wt_op16 wb52ctr_prog_5_method_1_code_c1 19 rfl rfl rfl
theorem wcd_st_49 : decode prog_5_method_1_code 49 = .ok (.newarray .int, 2) := wt_op188 wb52ctr_prog_5_method_1_code_c1 21 rfl rfl
theorem wcd_st_51 : decode prog_5_method_1_code 51 = .ok (.putfield 27, 3) := wt_op181 wb52ctr_prog_5_method_1_code_c1 23 rfl rfl rfl
theorem wcd_st_54 : decode prog_5_method_1_code 54 = .ok (.aload_n 0, 1) := wt_op42 wb52ctr_prog_5_method_1_code_c1 26 rfl rfl
theorem wcd_st_55 : decode prog_5_method_1_code 55 = .ok (.bipush 10, 2) := wt_op16 wb52ctr_prog_5_method_1_code_c1 27 rfl rfl rfl
theorem wcd_st_57 : decode prog_5_method_1_code 57 = .ok (.newarray .int, 2) := wt_op188 wb52ctr_prog_5_method_1_code_c2 0 rfl rfl
theorem wcd_st_59 : decode prog_5_method_1_code 59 = .ok (.putfield 30, 3) := wt_op181 wb52ctr_prog_5_method_1_code_c2 2 rfl rfl rfl
theorem wcd_st_62 : decode prog_5_method_1_code 62 = .ok (.aload_n 0, 1) := wt_op42 wb52ctr_prog_5_method_1_code_c2 5 rfl rfl
theorem wcd_st_63 : decode prog_5_method_1_code 63 = .ok (.bipush 10, 2) := wt_op16 wb52ctr_prog_5_method_1_code_c2 6 rfl rfl rfl
theorem wcd_st_65 : decode prog_5_method_1_code 65 = .ok (.newarray .int, 2) := wt_op188 wb52ctr_prog_5_method_1_code_c2 8 rfl rfl
theorem wcd_st_67 : decode prog_5_method_1_code 67 = .ok (.putfield 33, 3) := wt_op181 wb52ctr_prog_5_method_1_code_c2 10 rfl rfl rfl
theorem wcd_st_70 : decode prog_5_method_1_code 70 = .ok (.aload_n 0, 1) := wt_op42 wb52ctr_prog_5_method_1_code_c2 13 rfl rfl
theorem wcd_st_71 : decode prog_5_method_1_code 71 = .ok (.invokevirtual 36, 3) := wt_op182 wb52ctr_prog_5_method_1_code_c2 14 rfl rfl rfl
theorem wcd_st_74 : decode prog_5_method_1_code 74 = .ok (.return_, 1) := wt_op177 wb52ctr_prog_5_method_1_code_c2 17 rfl rfl
set_option maxRecDepth 100000 in
set_option maxHeartbeats 4000000 in
theorem wc_st_39_z {n : Nat} {σ : wt_St} {σ1 : wt_St} (hz0 : wt_zero σ 40) (hc_0 : wp_st_clearPages n 39 σ = some σ1) (hf_1 : ∀ i, ¬ (39 ≤ i ∧ i < 48) → (∀ q, wt_gf σ1 i q = wt_gf σ i q) ∧ ∀ q, wt_ga σ1 i q = wt_ga σ i q) : wt_zero σ1 48 := by
  have hz1 : wt_zero σ1 48 := (hz0.mono (by decide)).fr (fun i hi => hf_1 i (by omega))
  exact hz1.mono (by decide)
set_option maxRecDepth 100000 in
set_option maxHeartbeats 40000000 in
theorem wc_st_39 {l : Launch} {w : wt_E} {n : Nat} {σ : wt_St} {σ1 : wt_St} (hdm : ∀ i, wt_dom w i ↔ i < 40) (hz0 : wt_zero σ 40) (hc_0 : wp_st_clearPages n 39 σ = some σ1) (hf_1 : ∀ i, ¬ (39 ≤ i ∧ i < 48) → (∀ q, wt_gf σ1 i q = wt_gf σ i q) ∧ ∀ q, wt_ga σ1 i q = wt_ga σ i q) : wt_CtrB wt_SA l w wt_y_st_init prog_5_method_1_code 1 2 62 [.inr 39] 40 48 [(0, 6)] [(0, 6)] σ σ1 := by
  have hz1 : wt_zero σ1 48 := (hz0.mono (by decide)).fr (fun i hi => hf_1 i (by omega))
  refine wt_ctrB hdm hz0 wt_pl_st_init rfl (Nat.le_of_ble_eq_true rfl) [some (.inr 39)] rfl ?_
  intro X hXl hXw hE hR hSA
  subst hXl
  subst hXw
  have hE : wt_Ok X prog_5_method_1_code 1 "WornType$State" 2 62 := hE
  refine wt_bn_aload_n hE wcd_st_0 rfl ?_
  refine wt_bn_obj hE (wt_g1 187 rfl rfl) (wt_g1 31 rfl rfl) (wt_g1 32 rfl rfl) (by omega) (by decide) wcd_st_1 ?_
  refine wt_bn_aload_n hE wcd_st_4 rfl ?_
  refine wt_bn_sipush hE (312 : Int32) wcd_st_5 wt_cs_312 ?_
  refine wt_bn_newarr (N := 312) hE [(39, 0)] (wt_g1 69 rfl rfl) wt_L40 wt_cn_312.1 wt_cn_312.2 (Nat.le_of_ble_eq_true rfl) (by decide +kernel) rfl rfl (Nat.le_of_ble_eq_true rfl) (Nat.le_of_ble_eq_true rfl) wcd_st_8 ?_
  refine wt_bn_putr (kf := 0) hE [(0, 6)] hR.2.1 wt_cf3 rfl (Nat.le_of_ble_eq_true rfl) rfl rfl (wt_g1 193 rfl rfl) (fun _ => rfl) (fun _ => rfl) wt_L39 rfl (Nat.le_of_ble_eq_true rfl) (Nat.le_of_ble_eq_true rfl) (by decide +kernel) wcd_st_10 ?_
  refine wt_bn_aload_n hE wcd_st_13 rfl ?_
  refine wt_bn_sipush hE (312 : Int32) wcd_st_14 wt_cs_312 ?_
  refine wt_bn_newarr (N := 312) hE [(39, 1)] (wt_g1 69 rfl rfl) wt_L41 wt_cn_312.1 wt_cn_312.2 (Nat.le_of_ble_eq_true rfl) (by decide +kernel) rfl rfl (Nat.le_of_ble_eq_true rfl) (Nat.le_of_ble_eq_true rfl) wcd_st_17 ?_
  refine wt_bn_putr (kf := 1) hE [(0, 6)] hR.2.1 wt_cf3 rfl (Nat.le_of_ble_eq_true rfl) rfl rfl (wt_g1 200 rfl rfl) (fun _ => rfl) (fun _ => rfl) wt_L39 rfl (Nat.le_of_ble_eq_true rfl) (Nat.le_of_ble_eq_true rfl) (by decide +kernel) wcd_st_19 ?_
  refine wt_bn_aload_n hE wcd_st_22 rfl ?_
  refine wt_bn_sipush hE (312 : Int32) wcd_st_23 wt_cs_312 ?_
  refine wt_bn_newarr (N := 312) hE [(39, 2)] (wt_g1 69 rfl rfl) wt_L42 wt_cn_312.1 wt_cn_312.2 (Nat.le_of_ble_eq_true rfl) (by decide +kernel) rfl rfl (Nat.le_of_ble_eq_true rfl) (Nat.le_of_ble_eq_true rfl) wcd_st_26 ?_
  refine wt_bn_putr (kf := 2) hE [(0, 6)] hR.2.1 wt_cf3 rfl (Nat.le_of_ble_eq_true rfl) rfl rfl (wt_g1 204 rfl rfl) (fun _ => rfl) (fun _ => rfl) wt_L39 rfl (Nat.le_of_ble_eq_true rfl) (Nat.le_of_ble_eq_true rfl) (by decide +kernel) wcd_st_28 ?_
  refine wt_bn_aload_n hE wcd_st_31 rfl ?_
  refine wt_bn_iconst hE (4 : Int32) wcd_st_32 wt_ci_4 ?_
  refine wt_bn_newarr (N := 4) hE [(39, 3)] (wt_g1 69 rfl rfl) wt_L43 wt_cn_4.1 wt_cn_4.2 (Nat.le_of_ble_eq_true rfl) (by decide +kernel) rfl rfl (Nat.le_of_ble_eq_true rfl) (Nat.le_of_ble_eq_true rfl) wcd_st_33 ?_
  refine wt_bn_putr (kf := 3) hE [(0, 6)] hR.2.1 wt_cf3 rfl (Nat.le_of_ble_eq_true rfl) rfl rfl (wt_g1 206 rfl rfl) (fun _ => rfl) (fun _ => rfl) wt_L39 rfl (Nat.le_of_ble_eq_true rfl) (Nat.le_of_ble_eq_true rfl) (by decide +kernel) wcd_st_35 ?_
  refine wt_bn_aload_n hE wcd_st_38 rfl ?_
  refine wt_bn_bipush hE (10 : Int32) wcd_st_39 wt_cb_10 ?_
  refine wt_bn_newarr (N := 10) hE [(39, 4)] (wt_g1 69 rfl rfl) wt_L44 wt_cn_10.1 wt_cn_10.2 (Nat.le_of_ble_eq_true rfl) (by decide +kernel) rfl rfl (Nat.le_of_ble_eq_true rfl) (Nat.le_of_ble_eq_true rfl) wcd_st_41 ?_
  refine wt_bn_putr (kf := 4) hE [(0, 6)] hR.2.1 wt_cf3 rfl (Nat.le_of_ble_eq_true rfl) rfl rfl (wt_g1 209 rfl rfl) (fun _ => rfl) (fun _ => rfl) wt_L39 rfl (Nat.le_of_ble_eq_true rfl) (Nat.le_of_ble_eq_true rfl) (by decide +kernel) wcd_st_43 ?_
  refine wt_bn_aload_n hE wcd_st_46 rfl ?_
  refine wt_bn_bipush hE (10 : Int32) wcd_st_47 wt_cb_10 ?_
  refine wt_bn_newarr (N := 10) hE [(39, 5)] (wt_g1 69 rfl rfl) wt_L45 wt_cn_10.1 wt_cn_10.2 (Nat.le_of_ble_eq_true rfl) (by decide +kernel) rfl rfl (Nat.le_of_ble_eq_true rfl) (Nat.le_of_ble_eq_true rfl) wcd_st_49 ?_
  refine wt_bn_putr (kf := 5) hE [(0, 6)] hR.2.1 wt_cf3 rfl (Nat.le_of_ble_eq_true rfl) rfl rfl (wt_g1 211 rfl rfl) (fun _ => rfl) (fun _ => rfl) wt_L39 rfl (Nat.le_of_ble_eq_true rfl) (Nat.le_of_ble_eq_true rfl) (by decide +kernel) wcd_st_51 ?_
  refine wt_bn_aload_n hE wcd_st_54 rfl ?_
  refine wt_bn_bipush hE (10 : Int32) wcd_st_55 wt_cb_10 ?_
  refine wt_bn_newarr (N := 10) hE [(39, 6)] (wt_g1 69 rfl rfl) wt_L46 wt_cn_10.1 wt_cn_10.2 (Nat.le_of_ble_eq_true rfl) (by decide +kernel) rfl rfl (Nat.le_of_ble_eq_true rfl) (Nat.le_of_ble_eq_true rfl) wcd_st_57 ?_
  refine wt_bn_putr (kf := 6) hE [(0, 6)] hR.2.1 wt_cf3 rfl (Nat.le_of_ble_eq_true rfl) rfl rfl (wt_g1 213 rfl rfl) (fun _ => rfl) (fun _ => rfl) wt_L39 rfl (Nat.le_of_ble_eq_true rfl) (Nat.le_of_ble_eq_true rfl) (by decide +kernel) wcd_st_59 ?_
  refine wt_bn_aload_n hE wcd_st_62 rfl ?_
  refine wt_bn_bipush hE (10 : Int32) wcd_st_63 wt_cb_10 ?_
  refine wt_bn_newarr (N := 10) hE [(39, 7)] (wt_g1 69 rfl rfl) wt_L47 wt_cn_10.1 wt_cn_10.2 (Nat.le_of_ble_eq_true rfl) (by decide +kernel) rfl rfl (Nat.le_of_ble_eq_true rfl) (Nat.le_of_ble_eq_true rfl) wcd_st_65 ?_
  refine wt_bn_putr (kf := 7) hE [(0, 6)] hR.2.1 wt_cf3 rfl (Nat.le_of_ble_eq_true rfl) rfl rfl (wt_g1 215 rfl rfl) (fun _ => rfl) (fun _ => rfl) wt_L39 rfl (Nat.le_of_ble_eq_true rfl) (Nat.le_of_ble_eq_true rfl) (by decide +kernel) wcd_st_67 ?_
  refine wt_bn_aload_n hE wcd_st_70 rfl ?_
  refine wt_bn_callV hE (fun i => 39 ≤ i ∧ i < 48) (wt_whole_of (by decide +kernel)) wt_lm_st_36 wt_ya_st_clearPages (As := []) (fun ad => wp_st_clearPages_ok (w := wt_at (wt_xw X) ad (fun i => 39 ≤ i ∧ i < 48)) wt_isState_39 (fun j hj => (⟨by omega, by omega⟩ : 39 ≤ 39 + j ∧ 39 + j < 48)) hc_0) (by omega) ⟨by decide, by decide⟩ wt_L39 rfl rfl rfl (by decide) (Nat.le_of_ble_eq_true rfl) hf_1 hz1 (Nat.le_of_ble_eq_true rfl) wcd_st_71 ?_
  exact wt_bn_ret (k0 := 62) hE hR (Nat.le_of_ble_eq_true rfl) (Nat.le_of_ble_eq_true rfl) wcd_st_74
set_option maxRecDepth 100000 in
set_option maxHeartbeats 4000000 in
theorem wc_st_49_z {n : Nat} {σ : wt_St} {σ1 : wt_St} (hz0 : wt_zero σ 50) (hc_0 : wp_st_clearPages n 49 σ = some σ1) (hf_1 : ∀ i, ¬ (49 ≤ i ∧ i < 58) → (∀ q, wt_gf σ1 i q = wt_gf σ i q) ∧ ∀ q, wt_ga σ1 i q = wt_ga σ i q) : wt_zero σ1 58 := by
  have hz1 : wt_zero σ1 58 := (hz0.mono (by decide)).fr (fun i hi => hf_1 i (by omega))
  exact hz1.mono (by decide)
set_option maxRecDepth 100000 in
set_option maxHeartbeats 40000000 in
theorem wc_st_49 {l : Launch} {w : wt_E} {n : Nat} {σ : wt_St} {σ1 : wt_St} (hdm : ∀ i, wt_dom w i ↔ i < 50) (hz0 : wt_zero σ 50) (hc_0 : wp_st_clearPages n 49 σ = some σ1) (hf_1 : ∀ i, ¬ (49 ≤ i ∧ i < 58) → (∀ q, wt_gf σ1 i q = wt_gf σ i q) ∧ ∀ q, wt_ga σ1 i q = wt_ga σ i q) : wt_CtrB wt_SA l w wt_y_st_init prog_5_method_1_code 1 2 62 [.inr 49] 50 58 [(48, 0)] [(48, 0)] σ σ1 := by
  have hz1 : wt_zero σ1 58 := (hz0.mono (by decide)).fr (fun i hi => hf_1 i (by omega))
  refine wt_ctrB hdm hz0 wt_pl_st_init rfl (Nat.le_of_ble_eq_true rfl) [some (.inr 49)] rfl ?_
  intro X hXl hXw hE hR hSA
  subst hXl
  subst hXw
  have hE : wt_Ok X prog_5_method_1_code 1 "WornType$State" 2 62 := hE
  refine wt_bn_aload_n hE wcd_st_0 rfl ?_
  refine wt_bn_obj hE (wt_g1 187 rfl rfl) (wt_g1 31 rfl rfl) (wt_g1 32 rfl rfl) (by omega) (by decide) wcd_st_1 ?_
  refine wt_bn_aload_n hE wcd_st_4 rfl ?_
  refine wt_bn_sipush hE (312 : Int32) wcd_st_5 wt_cs_312 ?_
  refine wt_bn_newarr (N := 312) hE [(49, 0)] (wt_g1 69 rfl rfl) wt_L50 wt_cn_312.1 wt_cn_312.2 (Nat.le_of_ble_eq_true rfl) (by decide +kernel) rfl rfl (Nat.le_of_ble_eq_true rfl) (Nat.le_of_ble_eq_true rfl) wcd_st_8 ?_
  refine wt_bn_putr (kf := 0) hE [(48, 0)] hR.2.1 wt_cf3 rfl (Nat.le_of_ble_eq_true rfl) rfl rfl (wt_g1 193 rfl rfl) (fun _ => rfl) (fun _ => rfl) wt_L49 rfl (Nat.le_of_ble_eq_true rfl) (Nat.le_of_ble_eq_true rfl) (by decide +kernel) wcd_st_10 ?_
  refine wt_bn_aload_n hE wcd_st_13 rfl ?_
  refine wt_bn_sipush hE (312 : Int32) wcd_st_14 wt_cs_312 ?_
  refine wt_bn_newarr (N := 312) hE [(49, 1)] (wt_g1 69 rfl rfl) wt_L51 wt_cn_312.1 wt_cn_312.2 (Nat.le_of_ble_eq_true rfl) (by decide +kernel) rfl rfl (Nat.le_of_ble_eq_true rfl) (Nat.le_of_ble_eq_true rfl) wcd_st_17 ?_
  refine wt_bn_putr (kf := 1) hE [(48, 0)] hR.2.1 wt_cf3 rfl (Nat.le_of_ble_eq_true rfl) rfl rfl (wt_g1 200 rfl rfl) (fun _ => rfl) (fun _ => rfl) wt_L49 rfl (Nat.le_of_ble_eq_true rfl) (Nat.le_of_ble_eq_true rfl) (by decide +kernel) wcd_st_19 ?_
  refine wt_bn_aload_n hE wcd_st_22 rfl ?_
  refine wt_bn_sipush hE (312 : Int32) wcd_st_23 wt_cs_312 ?_
  refine wt_bn_newarr (N := 312) hE [(49, 2)] (wt_g1 69 rfl rfl) wt_L52 wt_cn_312.1 wt_cn_312.2 (Nat.le_of_ble_eq_true rfl) (by decide +kernel) rfl rfl (Nat.le_of_ble_eq_true rfl) (Nat.le_of_ble_eq_true rfl) wcd_st_26 ?_
  refine wt_bn_putr (kf := 2) hE [(48, 0)] hR.2.1 wt_cf3 rfl (Nat.le_of_ble_eq_true rfl) rfl rfl (wt_g1 204 rfl rfl) (fun _ => rfl) (fun _ => rfl) wt_L49 rfl (Nat.le_of_ble_eq_true rfl) (Nat.le_of_ble_eq_true rfl) (by decide +kernel) wcd_st_28 ?_
  refine wt_bn_aload_n hE wcd_st_31 rfl ?_
  refine wt_bn_iconst hE (4 : Int32) wcd_st_32 wt_ci_4 ?_
  refine wt_bn_newarr (N := 4) hE [(49, 3)] (wt_g1 69 rfl rfl) wt_L53 wt_cn_4.1 wt_cn_4.2 (Nat.le_of_ble_eq_true rfl) (by decide +kernel) rfl rfl (Nat.le_of_ble_eq_true rfl) (Nat.le_of_ble_eq_true rfl) wcd_st_33 ?_
  refine wt_bn_putr (kf := 3) hE [(48, 0)] hR.2.1 wt_cf3 rfl (Nat.le_of_ble_eq_true rfl) rfl rfl (wt_g1 206 rfl rfl) (fun _ => rfl) (fun _ => rfl) wt_L49 rfl (Nat.le_of_ble_eq_true rfl) (Nat.le_of_ble_eq_true rfl) (by decide +kernel) wcd_st_35 ?_
  refine wt_bn_aload_n hE wcd_st_38 rfl ?_
  refine wt_bn_bipush hE (10 : Int32) wcd_st_39 wt_cb_10 ?_
  refine wt_bn_newarr (N := 10) hE [(49, 4)] (wt_g1 69 rfl rfl) wt_L54 wt_cn_10.1 wt_cn_10.2 (Nat.le_of_ble_eq_true rfl) (by decide +kernel) rfl rfl (Nat.le_of_ble_eq_true rfl) (Nat.le_of_ble_eq_true rfl) wcd_st_41 ?_
  refine wt_bn_putr (kf := 4) hE [(48, 0)] hR.2.1 wt_cf3 rfl (Nat.le_of_ble_eq_true rfl) rfl rfl (wt_g1 209 rfl rfl) (fun _ => rfl) (fun _ => rfl) wt_L49 rfl (Nat.le_of_ble_eq_true rfl) (Nat.le_of_ble_eq_true rfl) (by decide +kernel) wcd_st_43 ?_
  refine wt_bn_aload_n hE wcd_st_46 rfl ?_
  refine wt_bn_bipush hE (10 : Int32) wcd_st_47 wt_cb_10 ?_
  refine wt_bn_newarr (N := 10) hE [(49, 5)] (wt_g1 69 rfl rfl) wt_L55 wt_cn_10.1 wt_cn_10.2 (Nat.le_of_ble_eq_true rfl) (by decide +kernel) rfl rfl (Nat.le_of_ble_eq_true rfl) (Nat.le_of_ble_eq_true rfl) wcd_st_49 ?_
  refine wt_bn_putr (kf := 5) hE [(48, 0)] hR.2.1 wt_cf3 rfl (Nat.le_of_ble_eq_true rfl) rfl rfl (wt_g1 211 rfl rfl) (fun _ => rfl) (fun _ => rfl) wt_L49 rfl (Nat.le_of_ble_eq_true rfl) (Nat.le_of_ble_eq_true rfl) (by decide +kernel) wcd_st_51 ?_
  refine wt_bn_aload_n hE wcd_st_54 rfl ?_
  refine wt_bn_bipush hE (10 : Int32) wcd_st_55 wt_cb_10 ?_
  refine wt_bn_newarr (N := 10) hE [(49, 6)] (wt_g1 69 rfl rfl) wt_L56 wt_cn_10.1 wt_cn_10.2 (Nat.le_of_ble_eq_true rfl) (by decide +kernel) rfl rfl (Nat.le_of_ble_eq_true rfl) (Nat.le_of_ble_eq_true rfl) wcd_st_57 ?_
  refine wt_bn_putr (kf := 6) hE [(48, 0)] hR.2.1 wt_cf3 rfl (Nat.le_of_ble_eq_true rfl) rfl rfl (wt_g1 213 rfl rfl) (fun _ => rfl) (fun _ => rfl) wt_L49 rfl (Nat.le_of_ble_eq_true rfl) (Nat.le_of_ble_eq_true rfl) (by decide +kernel) wcd_st_59 ?_
  refine wt_bn_aload_n hE wcd_st_62 rfl ?_
  refine wt_bn_bipush hE (10 : Int32) wcd_st_63 wt_cb_10 ?_
  refine wt_bn_newarr (N := 10) hE [(49, 7)] (wt_g1 69 rfl rfl) wt_L57 wt_cn_10.1 wt_cn_10.2 (Nat.le_of_ble_eq_true rfl) (by decide +kernel) rfl rfl (Nat.le_of_ble_eq_true rfl) (Nat.le_of_ble_eq_true rfl) wcd_st_65 ?_
  refine wt_bn_putr (kf := 7) hE [(48, 0)] hR.2.1 wt_cf3 rfl (Nat.le_of_ble_eq_true rfl) rfl rfl (wt_g1 215 rfl rfl) (fun _ => rfl) (fun _ => rfl) wt_L49 rfl (Nat.le_of_ble_eq_true rfl) (Nat.le_of_ble_eq_true rfl) (by decide +kernel) wcd_st_67 ?_
  refine wt_bn_aload_n hE wcd_st_70 rfl ?_
  refine wt_bn_callV hE (fun i => 49 ≤ i ∧ i < 58) (wt_whole_of (by decide +kernel)) wt_lm_st_36 wt_ya_st_clearPages (As := []) (fun ad => wp_st_clearPages_ok (w := wt_at (wt_xw X) ad (fun i => 49 ≤ i ∧ i < 58)) wt_isState_49 (fun j hj => (⟨by omega, by omega⟩ : 49 ≤ 49 + j ∧ 49 + j < 58)) hc_0) (by omega) ⟨by decide, by decide⟩ wt_L49 rfl rfl rfl (by decide) (Nat.le_of_ble_eq_true rfl) hf_1 hz1 (Nat.le_of_ble_eq_true rfl) wcd_st_71 ?_
  exact wt_bn_ret (k0 := 62) hE hR (Nat.le_of_ble_eq_true rfl) (Nat.le_of_ble_eq_true rfl) wcd_st_74
set_option maxRecDepth 100000 in
set_option maxHeartbeats 4000000 in
theorem wc_st_58_z {n : Nat} {σ : wt_St} {σ1 : wt_St} (hz0 : wt_zero σ 59) (hc_0 : wp_st_clearPages n 58 σ = some σ1) (hf_1 : ∀ i, ¬ (58 ≤ i ∧ i < 67) → (∀ q, wt_gf σ1 i q = wt_gf σ i q) ∧ ∀ q, wt_ga σ1 i q = wt_ga σ i q) : wt_zero σ1 67 := by
  have hz1 : wt_zero σ1 67 := (hz0.mono (by decide)).fr (fun i hi => hf_1 i (by omega))
  exact hz1.mono (by decide)
set_option maxRecDepth 100000 in
set_option maxHeartbeats 40000000 in
theorem wc_st_58 {l : Launch} {w : wt_E} {n : Nat} {σ : wt_St} {σ1 : wt_St} (hdm : ∀ i, wt_dom w i ↔ i < 59) (hz0 : wt_zero σ 59) (hc_0 : wp_st_clearPages n 58 σ = some σ1) (hf_1 : ∀ i, ¬ (58 ≤ i ∧ i < 67) → (∀ q, wt_gf σ1 i q = wt_gf σ i q) ∧ ∀ q, wt_ga σ1 i q = wt_ga σ i q) : wt_CtrB wt_SA l w wt_y_st_init prog_5_method_1_code 1 2 62 [.inr 58] 59 67 [(48, 1)] [(48, 1)] σ σ1 := by
  have hz1 : wt_zero σ1 67 := (hz0.mono (by decide)).fr (fun i hi => hf_1 i (by omega))
  refine wt_ctrB hdm hz0 wt_pl_st_init rfl (Nat.le_of_ble_eq_true rfl) [some (.inr 58)] rfl ?_
  intro X hXl hXw hE hR hSA
  subst hXl
  subst hXw
  have hE : wt_Ok X prog_5_method_1_code 1 "WornType$State" 2 62 := hE
  refine wt_bn_aload_n hE wcd_st_0 rfl ?_
  refine wt_bn_obj hE (wt_g1 187 rfl rfl) (wt_g1 31 rfl rfl) (wt_g1 32 rfl rfl) (by omega) (by decide) wcd_st_1 ?_
  refine wt_bn_aload_n hE wcd_st_4 rfl ?_
  refine wt_bn_sipush hE (312 : Int32) wcd_st_5 wt_cs_312 ?_
  refine wt_bn_newarr (N := 312) hE [(58, 0)] (wt_g1 69 rfl rfl) wt_L59 wt_cn_312.1 wt_cn_312.2 (Nat.le_of_ble_eq_true rfl) (by decide +kernel) rfl rfl (Nat.le_of_ble_eq_true rfl) (Nat.le_of_ble_eq_true rfl) wcd_st_8 ?_
  refine wt_bn_putr (kf := 0) hE [(48, 1)] hR.2.1 wt_cf3 rfl (Nat.le_of_ble_eq_true rfl) rfl rfl (wt_g1 193 rfl rfl) (fun _ => rfl) (fun _ => rfl) wt_L58 rfl (Nat.le_of_ble_eq_true rfl) (Nat.le_of_ble_eq_true rfl) (by decide +kernel) wcd_st_10 ?_
  refine wt_bn_aload_n hE wcd_st_13 rfl ?_
  refine wt_bn_sipush hE (312 : Int32) wcd_st_14 wt_cs_312 ?_
  refine wt_bn_newarr (N := 312) hE [(58, 1)] (wt_g1 69 rfl rfl) wt_L60 wt_cn_312.1 wt_cn_312.2 (Nat.le_of_ble_eq_true rfl) (by decide +kernel) rfl rfl (Nat.le_of_ble_eq_true rfl) (Nat.le_of_ble_eq_true rfl) wcd_st_17 ?_
  refine wt_bn_putr (kf := 1) hE [(48, 1)] hR.2.1 wt_cf3 rfl (Nat.le_of_ble_eq_true rfl) rfl rfl (wt_g1 200 rfl rfl) (fun _ => rfl) (fun _ => rfl) wt_L58 rfl (Nat.le_of_ble_eq_true rfl) (Nat.le_of_ble_eq_true rfl) (by decide +kernel) wcd_st_19 ?_
  refine wt_bn_aload_n hE wcd_st_22 rfl ?_
  refine wt_bn_sipush hE (312 : Int32) wcd_st_23 wt_cs_312 ?_
  refine wt_bn_newarr (N := 312) hE [(58, 2)] (wt_g1 69 rfl rfl) wt_L61 wt_cn_312.1 wt_cn_312.2 (Nat.le_of_ble_eq_true rfl) (by decide +kernel) rfl rfl (Nat.le_of_ble_eq_true rfl) (Nat.le_of_ble_eq_true rfl) wcd_st_26 ?_
  refine wt_bn_putr (kf := 2) hE [(48, 1)] hR.2.1 wt_cf3 rfl (Nat.le_of_ble_eq_true rfl) rfl rfl (wt_g1 204 rfl rfl) (fun _ => rfl) (fun _ => rfl) wt_L58 rfl (Nat.le_of_ble_eq_true rfl) (Nat.le_of_ble_eq_true rfl) (by decide +kernel) wcd_st_28 ?_
  refine wt_bn_aload_n hE wcd_st_31 rfl ?_
  refine wt_bn_iconst hE (4 : Int32) wcd_st_32 wt_ci_4 ?_
  refine wt_bn_newarr (N := 4) hE [(58, 3)] (wt_g1 69 rfl rfl) wt_L62 wt_cn_4.1 wt_cn_4.2 (Nat.le_of_ble_eq_true rfl) (by decide +kernel) rfl rfl (Nat.le_of_ble_eq_true rfl) (Nat.le_of_ble_eq_true rfl) wcd_st_33 ?_
  refine wt_bn_putr (kf := 3) hE [(48, 1)] hR.2.1 wt_cf3 rfl (Nat.le_of_ble_eq_true rfl) rfl rfl (wt_g1 206 rfl rfl) (fun _ => rfl) (fun _ => rfl) wt_L58 rfl (Nat.le_of_ble_eq_true rfl) (Nat.le_of_ble_eq_true rfl) (by decide +kernel) wcd_st_35 ?_
  refine wt_bn_aload_n hE wcd_st_38 rfl ?_
  refine wt_bn_bipush hE (10 : Int32) wcd_st_39 wt_cb_10 ?_
  refine wt_bn_newarr (N := 10) hE [(58, 4)] (wt_g1 69 rfl rfl) wt_L63 wt_cn_10.1 wt_cn_10.2 (Nat.le_of_ble_eq_true rfl) (by decide +kernel) rfl rfl (Nat.le_of_ble_eq_true rfl) (Nat.le_of_ble_eq_true rfl) wcd_st_41 ?_
  refine wt_bn_putr (kf := 4) hE [(48, 1)] hR.2.1 wt_cf3 rfl (Nat.le_of_ble_eq_true rfl) rfl rfl (wt_g1 209 rfl rfl) (fun _ => rfl) (fun _ => rfl) wt_L58 rfl (Nat.le_of_ble_eq_true rfl) (Nat.le_of_ble_eq_true rfl) (by decide +kernel) wcd_st_43 ?_
  refine wt_bn_aload_n hE wcd_st_46 rfl ?_
  refine wt_bn_bipush hE (10 : Int32) wcd_st_47 wt_cb_10 ?_
  refine wt_bn_newarr (N := 10) hE [(58, 5)] (wt_g1 69 rfl rfl) wt_L64 wt_cn_10.1 wt_cn_10.2 (Nat.le_of_ble_eq_true rfl) (by decide +kernel) rfl rfl (Nat.le_of_ble_eq_true rfl) (Nat.le_of_ble_eq_true rfl) wcd_st_49 ?_
  refine wt_bn_putr (kf := 5) hE [(48, 1)] hR.2.1 wt_cf3 rfl (Nat.le_of_ble_eq_true rfl) rfl rfl (wt_g1 211 rfl rfl) (fun _ => rfl) (fun _ => rfl) wt_L58 rfl (Nat.le_of_ble_eq_true rfl) (Nat.le_of_ble_eq_true rfl) (by decide +kernel) wcd_st_51 ?_
  refine wt_bn_aload_n hE wcd_st_54 rfl ?_
  refine wt_bn_bipush hE (10 : Int32) wcd_st_55 wt_cb_10 ?_
  refine wt_bn_newarr (N := 10) hE [(58, 6)] (wt_g1 69 rfl rfl) wt_L65 wt_cn_10.1 wt_cn_10.2 (Nat.le_of_ble_eq_true rfl) (by decide +kernel) rfl rfl (Nat.le_of_ble_eq_true rfl) (Nat.le_of_ble_eq_true rfl) wcd_st_57 ?_
  refine wt_bn_putr (kf := 6) hE [(48, 1)] hR.2.1 wt_cf3 rfl (Nat.le_of_ble_eq_true rfl) rfl rfl (wt_g1 213 rfl rfl) (fun _ => rfl) (fun _ => rfl) wt_L58 rfl (Nat.le_of_ble_eq_true rfl) (Nat.le_of_ble_eq_true rfl) (by decide +kernel) wcd_st_59 ?_
  refine wt_bn_aload_n hE wcd_st_62 rfl ?_
  refine wt_bn_bipush hE (10 : Int32) wcd_st_63 wt_cb_10 ?_
  refine wt_bn_newarr (N := 10) hE [(58, 7)] (wt_g1 69 rfl rfl) wt_L66 wt_cn_10.1 wt_cn_10.2 (Nat.le_of_ble_eq_true rfl) (by decide +kernel) rfl rfl (Nat.le_of_ble_eq_true rfl) (Nat.le_of_ble_eq_true rfl) wcd_st_65 ?_
  refine wt_bn_putr (kf := 7) hE [(48, 1)] hR.2.1 wt_cf3 rfl (Nat.le_of_ble_eq_true rfl) rfl rfl (wt_g1 215 rfl rfl) (fun _ => rfl) (fun _ => rfl) wt_L58 rfl (Nat.le_of_ble_eq_true rfl) (Nat.le_of_ble_eq_true rfl) (by decide +kernel) wcd_st_67 ?_
  refine wt_bn_aload_n hE wcd_st_70 rfl ?_
  refine wt_bn_callV hE (fun i => 58 ≤ i ∧ i < 67) (wt_whole_of (by decide +kernel)) wt_lm_st_36 wt_ya_st_clearPages (As := []) (fun ad => wp_st_clearPages_ok (w := wt_at (wt_xw X) ad (fun i => 58 ≤ i ∧ i < 67)) wt_isState_58 (fun j hj => (⟨by omega, by omega⟩ : 58 ≤ 58 + j ∧ 58 + j < 67)) hc_0) (by omega) ⟨by decide, by decide⟩ wt_L58 rfl rfl rfl (by decide) (Nat.le_of_ble_eq_true rfl) hf_1 hz1 (Nat.le_of_ble_eq_true rfl) wcd_st_71 ?_
  exact wt_bn_ret (k0 := 62) hE hR (Nat.le_of_ble_eq_true rfl) (Nat.le_of_ble_eq_true rfl) wcd_st_74
set_option maxRecDepth 100000 in
set_option maxHeartbeats 4000000 in
theorem wc_st_67_z {n : Nat} {σ : wt_St} {σ1 : wt_St} (hz0 : wt_zero σ 68) (hc_0 : wp_st_clearPages n 67 σ = some σ1) (hf_1 : ∀ i, ¬ (67 ≤ i ∧ i < 76) → (∀ q, wt_gf σ1 i q = wt_gf σ i q) ∧ ∀ q, wt_ga σ1 i q = wt_ga σ i q) : wt_zero σ1 76 := by
  have hz1 : wt_zero σ1 76 := (hz0.mono (by decide)).fr (fun i hi => hf_1 i (by omega))
  exact hz1.mono (by decide)
set_option maxRecDepth 100000 in
set_option maxHeartbeats 40000000 in
theorem wc_st_67 {l : Launch} {w : wt_E} {n : Nat} {σ : wt_St} {σ1 : wt_St} (hdm : ∀ i, wt_dom w i ↔ i < 68) (hz0 : wt_zero σ 68) (hc_0 : wp_st_clearPages n 67 σ = some σ1) (hf_1 : ∀ i, ¬ (67 ≤ i ∧ i < 76) → (∀ q, wt_gf σ1 i q = wt_gf σ i q) ∧ ∀ q, wt_ga σ1 i q = wt_ga σ i q) : wt_CtrB wt_SA l w wt_y_st_init prog_5_method_1_code 1 2 62 [.inr 67] 68 76 [(48, 2)] [(48, 2)] σ σ1 := by
  have hz1 : wt_zero σ1 76 := (hz0.mono (by decide)).fr (fun i hi => hf_1 i (by omega))
  refine wt_ctrB hdm hz0 wt_pl_st_init rfl (Nat.le_of_ble_eq_true rfl) [some (.inr 67)] rfl ?_
  intro X hXl hXw hE hR hSA
  subst hXl
  subst hXw
  have hE : wt_Ok X prog_5_method_1_code 1 "WornType$State" 2 62 := hE
  refine wt_bn_aload_n hE wcd_st_0 rfl ?_
  refine wt_bn_obj hE (wt_g1 187 rfl rfl) (wt_g1 31 rfl rfl) (wt_g1 32 rfl rfl) (by omega) (by decide) wcd_st_1 ?_
  refine wt_bn_aload_n hE wcd_st_4 rfl ?_
  refine wt_bn_sipush hE (312 : Int32) wcd_st_5 wt_cs_312 ?_
  refine wt_bn_newarr (N := 312) hE [(67, 0)] (wt_g1 69 rfl rfl) wt_L68 wt_cn_312.1 wt_cn_312.2 (Nat.le_of_ble_eq_true rfl) (by decide +kernel) rfl rfl (Nat.le_of_ble_eq_true rfl) (Nat.le_of_ble_eq_true rfl) wcd_st_8 ?_
  refine wt_bn_putr (kf := 0) hE [(48, 2)] hR.2.1 wt_cf3 rfl (Nat.le_of_ble_eq_true rfl) rfl rfl (wt_g1 193 rfl rfl) (fun _ => rfl) (fun _ => rfl) wt_L67 rfl (Nat.le_of_ble_eq_true rfl) (Nat.le_of_ble_eq_true rfl) (by decide +kernel) wcd_st_10 ?_
  refine wt_bn_aload_n hE wcd_st_13 rfl ?_
  refine wt_bn_sipush hE (312 : Int32) wcd_st_14 wt_cs_312 ?_
  refine wt_bn_newarr (N := 312) hE [(67, 1)] (wt_g1 69 rfl rfl) wt_L69 wt_cn_312.1 wt_cn_312.2 (Nat.le_of_ble_eq_true rfl) (by decide +kernel) rfl rfl (Nat.le_of_ble_eq_true rfl) (Nat.le_of_ble_eq_true rfl) wcd_st_17 ?_
  refine wt_bn_putr (kf := 1) hE [(48, 2)] hR.2.1 wt_cf3 rfl (Nat.le_of_ble_eq_true rfl) rfl rfl (wt_g1 200 rfl rfl) (fun _ => rfl) (fun _ => rfl) wt_L67 rfl (Nat.le_of_ble_eq_true rfl) (Nat.le_of_ble_eq_true rfl) (by decide +kernel) wcd_st_19 ?_
  refine wt_bn_aload_n hE wcd_st_22 rfl ?_
  refine wt_bn_sipush hE (312 : Int32) wcd_st_23 wt_cs_312 ?_
  refine wt_bn_newarr (N := 312) hE [(67, 2)] (wt_g1 69 rfl rfl) wt_L70 wt_cn_312.1 wt_cn_312.2 (Nat.le_of_ble_eq_true rfl) (by decide +kernel) rfl rfl (Nat.le_of_ble_eq_true rfl) (Nat.le_of_ble_eq_true rfl) wcd_st_26 ?_
  refine wt_bn_putr (kf := 2) hE [(48, 2)] hR.2.1 wt_cf3 rfl (Nat.le_of_ble_eq_true rfl) rfl rfl (wt_g1 204 rfl rfl) (fun _ => rfl) (fun _ => rfl) wt_L67 rfl (Nat.le_of_ble_eq_true rfl) (Nat.le_of_ble_eq_true rfl) (by decide +kernel) wcd_st_28 ?_
  refine wt_bn_aload_n hE wcd_st_31 rfl ?_
  refine wt_bn_iconst hE (4 : Int32) wcd_st_32 wt_ci_4 ?_
  refine wt_bn_newarr (N := 4) hE [(67, 3)] (wt_g1 69 rfl rfl) wt_L71 wt_cn_4.1 wt_cn_4.2 (Nat.le_of_ble_eq_true rfl) (by decide +kernel) rfl rfl (Nat.le_of_ble_eq_true rfl) (Nat.le_of_ble_eq_true rfl) wcd_st_33 ?_
  refine wt_bn_putr (kf := 3) hE [(48, 2)] hR.2.1 wt_cf3 rfl (Nat.le_of_ble_eq_true rfl) rfl rfl (wt_g1 206 rfl rfl) (fun _ => rfl) (fun _ => rfl) wt_L67 rfl (Nat.le_of_ble_eq_true rfl) (Nat.le_of_ble_eq_true rfl) (by decide +kernel) wcd_st_35 ?_
  refine wt_bn_aload_n hE wcd_st_38 rfl ?_
  refine wt_bn_bipush hE (10 : Int32) wcd_st_39 wt_cb_10 ?_
  refine wt_bn_newarr (N := 10) hE [(67, 4)] (wt_g1 69 rfl rfl) wt_L72 wt_cn_10.1 wt_cn_10.2 (Nat.le_of_ble_eq_true rfl) (by decide +kernel) rfl rfl (Nat.le_of_ble_eq_true rfl) (Nat.le_of_ble_eq_true rfl) wcd_st_41 ?_
  refine wt_bn_putr (kf := 4) hE [(48, 2)] hR.2.1 wt_cf3 rfl (Nat.le_of_ble_eq_true rfl) rfl rfl (wt_g1 209 rfl rfl) (fun _ => rfl) (fun _ => rfl) wt_L67 rfl (Nat.le_of_ble_eq_true rfl) (Nat.le_of_ble_eq_true rfl) (by decide +kernel) wcd_st_43 ?_
  refine wt_bn_aload_n hE wcd_st_46 rfl ?_
  refine wt_bn_bipush hE (10 : Int32) wcd_st_47 wt_cb_10 ?_
  refine wt_bn_newarr (N := 10) hE [(67, 5)] (wt_g1 69 rfl rfl) wt_L73 wt_cn_10.1 wt_cn_10.2 (Nat.le_of_ble_eq_true rfl) (by decide +kernel) rfl rfl (Nat.le_of_ble_eq_true rfl) (Nat.le_of_ble_eq_true rfl) wcd_st_49 ?_
  refine wt_bn_putr (kf := 5) hE [(48, 2)] hR.2.1 wt_cf3 rfl (Nat.le_of_ble_eq_true rfl) rfl rfl (wt_g1 211 rfl rfl) (fun _ => rfl) (fun _ => rfl) wt_L67 rfl (Nat.le_of_ble_eq_true rfl) (Nat.le_of_ble_eq_true rfl) (by decide +kernel) wcd_st_51 ?_
  refine wt_bn_aload_n hE wcd_st_54 rfl ?_
  refine wt_bn_bipush hE (10 : Int32) wcd_st_55 wt_cb_10 ?_
  refine wt_bn_newarr (N := 10) hE [(67, 6)] (wt_g1 69 rfl rfl) wt_L74 wt_cn_10.1 wt_cn_10.2 (Nat.le_of_ble_eq_true rfl) (by decide +kernel) rfl rfl (Nat.le_of_ble_eq_true rfl) (Nat.le_of_ble_eq_true rfl) wcd_st_57 ?_
  refine wt_bn_putr (kf := 6) hE [(48, 2)] hR.2.1 wt_cf3 rfl (Nat.le_of_ble_eq_true rfl) rfl rfl (wt_g1 213 rfl rfl) (fun _ => rfl) (fun _ => rfl) wt_L67 rfl (Nat.le_of_ble_eq_true rfl) (Nat.le_of_ble_eq_true rfl) (by decide +kernel) wcd_st_59 ?_
  refine wt_bn_aload_n hE wcd_st_62 rfl ?_
  refine wt_bn_bipush hE (10 : Int32) wcd_st_63 wt_cb_10 ?_
  refine wt_bn_newarr (N := 10) hE [(67, 7)] (wt_g1 69 rfl rfl) wt_L75 wt_cn_10.1 wt_cn_10.2 (Nat.le_of_ble_eq_true rfl) (by decide +kernel) rfl rfl (Nat.le_of_ble_eq_true rfl) (Nat.le_of_ble_eq_true rfl) wcd_st_65 ?_
  refine wt_bn_putr (kf := 7) hE [(48, 2)] hR.2.1 wt_cf3 rfl (Nat.le_of_ble_eq_true rfl) rfl rfl (wt_g1 215 rfl rfl) (fun _ => rfl) (fun _ => rfl) wt_L67 rfl (Nat.le_of_ble_eq_true rfl) (Nat.le_of_ble_eq_true rfl) (by decide +kernel) wcd_st_67 ?_
  refine wt_bn_aload_n hE wcd_st_70 rfl ?_
  refine wt_bn_callV hE (fun i => 67 ≤ i ∧ i < 76) (wt_whole_of (by decide +kernel)) wt_lm_st_36 wt_ya_st_clearPages (As := []) (fun ad => wp_st_clearPages_ok (w := wt_at (wt_xw X) ad (fun i => 67 ≤ i ∧ i < 76)) wt_isState_67 (fun j hj => (⟨by omega, by omega⟩ : 67 ≤ 67 + j ∧ 67 + j < 76)) hc_0) (by omega) ⟨by decide, by decide⟩ wt_L67 rfl rfl rfl (by decide) (Nat.le_of_ble_eq_true rfl) hf_1 hz1 (Nat.le_of_ble_eq_true rfl) wcd_st_71 ?_
  exact wt_bn_ret (k0 := 62) hE hR (Nat.le_of_ble_eq_true rfl) (Nat.le_of_ble_eq_true rfl) wcd_st_74
def wb52ctr_prog_6_method_1_code_r0 : List (List Nat) := [42, 183, 0, 3, 42, 43, 181, 0, 9, 42, 44, 181, 0, 15, 177] :: []
set_option maxRecDepth 100000 in
theorem wb52ctr_prog_6_method_1_code_c0 : wt_cs prog_6_method_1_code 0 wb52ctr_prog_6_method_1_code_r0 := wt_cs_of (by decide +kernel)
theorem wcd_sk_0 : decode prog_6_method_1_code 0 = .ok (.aload_n 0, 1) := wt_op42 wb52ctr_prog_6_method_1_code_c0 0 rfl rfl
theorem wcd_sk_1 : decode prog_6_method_1_code 1 = .ok (.invokespecial 3, 3) := wt_op183 wb52ctr_prog_6_method_1_code_c0 1 rfl rfl rfl
theorem wcd_sk_4 : decode prog_6_method_1_code 4 = .ok (.aload_n 0, 1) := wt_op42 wb52ctr_prog_6_method_1_code_c0 4 rfl rfl
theorem wcd_sk_5 : decode prog_6_method_1_code 5 = .ok (.aload_n 1, 1) := wt_op43 wb52ctr_prog_6_method_1_code_c0 5 rfl rfl
theorem wcd_sk_6 : decode prog_6_method_1_code 6 = .ok (.putfield 9, 3) := wt_op181 wb52ctr_prog_6_method_1_code_c0 6 rfl rfl rfl
theorem wcd_sk_9 : decode prog_6_method_1_code 9 = .ok (.aload_n 0, 1) := wt_op42 wb52ctr_prog_6_method_1_code_c0 9 rfl rfl
theorem wcd_sk_10 : decode prog_6_method_1_code 10 = .ok (.aload_n 2, 1) := wt_op44 wb52ctr_prog_6_method_1_code_c0 10 rfl rfl
theorem wcd_sk_11 : decode prog_6_method_1_code 11 = .ok (.putfield 15, 3) := wt_op181 wb52ctr_prog_6_method_1_code_c0 11 rfl rfl rfl
theorem wcd_sk_14 : decode prog_6_method_1_code 14 = .ok (.return_, 1) := wt_op177 wb52ctr_prog_6_method_1_code_c0 14 rfl rfl
set_option maxRecDepth 100000 in
set_option maxHeartbeats 4000000 in
theorem wc_sk_76_z {σ : wt_St} (hz0 : wt_zero σ 77) : wt_zero σ 77 := by

  exact hz0.mono (by decide)
set_option maxRecDepth 100000 in
set_option maxHeartbeats 40000000 in
theorem wc_sk_76 {l : Launch} {w : wt_E} {σ : wt_St} (hdm : ∀ i, wt_dom w i ↔ i < 77) (hz0 : wt_zero σ 77) : wt_CtrB wt_SA l w wt_y_sk_init prog_6_method_1_code 3 1 0 [.inr 76, .inr 4, .inr 39] 77 77 [(0, 8), (76, 0), (76, 1)] [(0, 8)] σ σ := by

  refine wt_ctrB hdm hz0 wt_pl_sk_init rfl (Nat.le_of_ble_eq_true rfl) [some (.inr 76), some (.inr 4), some (.inr 39)] rfl ?_
  intro X hXl hXw hE hR hSA
  subst hXl
  subst hXw
  have hE : wt_Ok X prog_6_method_1_code 3 "WornType$Stock" 1 0 := hE
  refine wt_bn_aload_n hE wcd_sk_0 rfl ?_
  refine wt_bn_obj hE (wt_g2 10 rfl rfl) (wt_g1 31 rfl rfl) (wt_g1 32 rfl rfl) (by omega) (by decide) wcd_sk_1 ?_
  refine wt_bn_aload_n hE wcd_sk_4 rfl ?_
  refine wt_bn_aload_n hE wcd_sk_5 rfl ?_
  refine wt_bn_putr (kf := 0) hE [(0, 8), (76, 1)] hR.2.1 wt_cf4 rfl (Nat.le_of_ble_eq_true rfl) rfl rfl (wt_g2 11 rfl rfl) (fun _ => rfl) (fun _ => rfl) wt_L76 rfl (Nat.le_of_ble_eq_true rfl) (Nat.le_of_ble_eq_true rfl) (by decide +kernel) wcd_sk_6 ?_
  refine wt_bn_aload_n hE wcd_sk_9 rfl ?_
  refine wt_bn_aload_n hE wcd_sk_10 rfl ?_
  refine wt_bn_putr (kf := 1) hE [(0, 8)] hR.2.1 wt_cf4 rfl (Nat.le_of_ble_eq_true rfl) rfl rfl (wt_g2 12 rfl rfl) (fun _ => rfl) (fun _ => rfl) wt_L76 rfl (Nat.le_of_ble_eq_true rfl) (Nat.le_of_ble_eq_true rfl) (by decide +kernel) wcd_sk_11 ?_
  exact wt_bn_ret (k0 := 0) hE hR (Nat.le_of_ble_eq_true rfl) (Nat.le_of_ble_eq_true rfl) wcd_sk_14
def wb52ctr_prog_3_method_1_code_r1 : List (List Nat) := [181, 0, 27, 42, 16, 26, 188, 10, 181, 0, 31, 42, 16, 26, 188, 10, 181, 0, 35, 42, 16, 9, 188, 10, 181, 0, 38, 177] :: []
def wb52ctr_prog_3_method_1_code_r0 : List (List Nat) := [42, 183, 0, 3, 42, 43, 181, 0, 9, 42, 44, 181, 0, 15, 42, 45, 181, 0, 19, 42, 25, 4, 181, 0, 23, 42, 25, 5] :: wb52ctr_prog_3_method_1_code_r1
set_option maxRecDepth 100000 in
theorem wb52ctr_prog_3_method_1_code_c0 : wt_cs prog_3_method_1_code 0 wb52ctr_prog_3_method_1_code_r0 := wt_cs_of (by decide +kernel)
theorem wb52ctr_prog_3_method_1_code_c1 : wt_cs prog_3_method_1_code 28 wb52ctr_prog_3_method_1_code_r1 := wt_cs_tl (m := 28) wb52ctr_prog_3_method_1_code_c0 rfl rfl
theorem wcd_pg_0 : decode prog_3_method_1_code 0 = .ok (.aload_n 0, 1) := wt_op42 wb52ctr_prog_3_method_1_code_c0 0 rfl rfl
theorem wcd_pg_1 : decode prog_3_method_1_code 1 = .ok (.invokespecial 3, 3) := wt_op183 wb52ctr_prog_3_method_1_code_c0 1 rfl rfl rfl
theorem wcd_pg_4 : decode prog_3_method_1_code 4 = .ok (.aload_n 0, 1) := wt_op42 wb52ctr_prog_3_method_1_code_c0 4 rfl rfl
theorem wcd_pg_5 : decode prog_3_method_1_code 5 = .ok (.aload_n 1, 1) := wt_op43 wb52ctr_prog_3_method_1_code_c0 5 rfl rfl
theorem wcd_pg_6 : decode prog_3_method_1_code 6 = .ok (.putfield 9, 3) := wt_op181 wb52ctr_prog_3_method_1_code_c0 6 rfl rfl rfl
theorem wcd_pg_9 : decode prog_3_method_1_code 9 = .ok (.aload_n 0, 1) := wt_op42 wb52ctr_prog_3_method_1_code_c0 9 rfl rfl
theorem wcd_pg_10 : decode prog_3_method_1_code 10 = .ok (.aload_n 2, 1) := wt_op44 wb52ctr_prog_3_method_1_code_c0 10 rfl rfl
theorem wcd_pg_11 : decode prog_3_method_1_code 11 = .ok (.putfield 15, 3) := wt_op181 wb52ctr_prog_3_method_1_code_c0 11 rfl rfl rfl
theorem wcd_pg_14 : decode prog_3_method_1_code 14 = .ok (.aload_n 0, 1) := wt_op42 wb52ctr_prog_3_method_1_code_c0 14 rfl rfl
theorem wcd_pg_15 : decode prog_3_method_1_code 15 = .ok (.aload_n 3, 1) := wt_op45 wb52ctr_prog_3_method_1_code_c0 15 rfl rfl
theorem wcd_pg_16 : decode prog_3_method_1_code 16 = .ok (.putfield 19, 3) := wt_op181 wb52ctr_prog_3_method_1_code_c0 16 rfl rfl rfl
theorem wcd_pg_19 : decode prog_3_method_1_code 19 = .ok (.aload_n 0, 1) := wt_op42 wb52ctr_prog_3_method_1_code_c0 19 rfl rfl
theorem wcd_pg_20 : decode prog_3_method_1_code 20 = .ok (.aload 4, 2) := wt_op25 wb52ctr_prog_3_method_1_code_c0 20 rfl rfl
theorem wcd_pg_22 : decode prog_3_method_1_code 22 = .ok (.putfield 23, 3) := wt_op181 wb52ctr_prog_3_method_1_code_c0 22 rfl rfl rfl
theorem wcd_pg_25 : decode prog_3_method_1_code 25 = .ok (.aload_n 0, 1) := wt_op42 wb52ctr_prog_3_method_1_code_c0 25 rfl rfl
theorem wcd_pg_26 : decode prog_3_method_1_code 26 = .ok (.aload 5, 2) := wt_op25 wb52ctr_prog_3_method_1_code_c0 26 rfl rfl
theorem wcd_pg_28 : decode prog_3_method_1_code 28 = .ok (.putfield 27, 3) := wt_op181 wb52ctr_prog_3_method_1_code_c1 0 rfl rfl rfl
theorem wcd_pg_31 : decode prog_3_method_1_code 31 = .ok (.aload_n 0, 1) := wt_op42 wb52ctr_prog_3_method_1_code_c1 3 rfl rfl
theorem wcd_pg_32 : decode prog_3_method_1_code 32 = .ok (.bipush 26, 2) := wt_op16 wb52ctr_prog_3_method_1_code_c1 4 rfl rfl rfl
theorem wcd_pg_34 : decode prog_3_method_1_code 34 = .ok (.newarray .int, 2) := wt_op188 wb52ctr_prog_3_method_1_code_c1 6 rfl rfl
theorem wcd_pg_36 : decode prog_3_method_1_code 36 = .ok (.putfield 31, 3) := wt_op181 wb52ctr_prog_3_method_1_code_c1 8 rfl rfl rfl
theorem wcd_pg_39 : decode prog_3_method_1_code 39 = .ok (.aload_n 0, 1) := wt_op42 wb52ctr_prog_3_method_1_code_c1 11 rfl rfl
theorem wcd_pg_40 : decode prog_3_method_1_code 40 = .ok (.bipush 26, 2) := wt_op16 wb52ctr_prog_3_method_1_code_c1 12 rfl rfl rfl
theorem wcd_pg_42 : decode prog_3_method_1_code 42 = .ok (.newarray .int, 2) := wt_op188 wb52ctr_prog_3_method_1_code_c1 14 rfl rfl
theorem wcd_pg_44 : decode prog_3_method_1_code 44 = .ok (.putfield 35, 3) := wt_op181 wb52ctr_prog_3_method_1_code_c1 16 rfl rfl rfl
theorem wcd_pg_47 : decode prog_3_method_1_code 47 = .ok (.aload_n 0, 1) := wt_op42 wb52ctr_prog_3_method_1_code_c1 19 rfl rfl
theorem wcd_pg_48 : decode prog_3_method_1_code 48 = .ok (.bipush 9, 2) := wt_op16 wb52ctr_prog_3_method_1_code_c1 20 rfl rfl rfl
theorem wcd_pg_50 : decode prog_3_method_1_code 50 = .ok (.newarray .int, 2) := wt_op188 wb52ctr_prog_3_method_1_code_c1 22 rfl rfl
theorem wcd_pg_52 : decode prog_3_method_1_code 52 = .ok (.putfield 38, 3) := wt_op181 wb52ctr_prog_3_method_1_code_c1 24 rfl rfl rfl
theorem wcd_pg_55 : decode prog_3_method_1_code 55 = .ok (.return_, 1) := wt_op177 wb52ctr_prog_3_method_1_code_c1 27 rfl rfl
set_option maxRecDepth 100000 in
set_option maxHeartbeats 4000000 in
theorem wc_pg_77_z {σ : wt_St} (hz0 : wt_zero σ 78) : wt_zero σ 81 := by

  exact hz0.mono (by decide)
set_option maxRecDepth 100000 in
set_option maxHeartbeats 40000000 in
theorem wc_pg_77 {l : Launch} {w : wt_E} {σ : wt_St} (hdm : ∀ i, wt_dom w i ↔ i < 78) (hz0 : wt_zero σ 78) : wt_CtrB wt_SA l w wt_y_pg_init prog_3_method_1_code 6 1 4 [.inr 77, .inr 4, .inr 20, .inr 34, .inr 39, .inr 76] 78 81 [(0, 9), (77, 0), (77, 1), (77, 2), (77, 3), (77, 4)] [(0, 9)] σ σ := by

  refine wt_ctrB hdm hz0 wt_pl_pg_init rfl (Nat.le_of_ble_eq_true rfl) [some (.inr 77), some (.inr 4), some (.inr 20), some (.inr 34), some (.inr 39), some (.inr 76)] rfl ?_
  intro X hXl hXw hE hR hSA
  subst hXl
  subst hXw
  have hE : wt_Ok X prog_3_method_1_code 6 "WornType$Pages" 1 4 := hE
  refine wt_bn_aload_n hE wcd_pg_0 rfl ?_
  refine wt_bn_obj hE (wt_g2 23 rfl rfl) (wt_g1 31 rfl rfl) (wt_g1 32 rfl rfl) (by omega) (by decide) wcd_pg_1 ?_
  refine wt_bn_aload_n hE wcd_pg_4 rfl ?_
  refine wt_bn_aload_n hE wcd_pg_5 rfl ?_
  refine wt_bn_putr (kf := 0) hE [(0, 9), (77, 1), (77, 2), (77, 3), (77, 4)] hR.2.1 wt_cf1 rfl (Nat.le_of_ble_eq_true rfl) rfl rfl (wt_g2 24 rfl rfl) (fun _ => rfl) (fun _ => rfl) wt_L77 rfl (Nat.le_of_ble_eq_true rfl) (Nat.le_of_ble_eq_true rfl) (by decide +kernel) wcd_pg_6 ?_
  refine wt_bn_aload_n hE wcd_pg_9 rfl ?_
  refine wt_bn_aload_n hE wcd_pg_10 rfl ?_
  refine wt_bn_putr (kf := 1) hE [(0, 9), (77, 2), (77, 3), (77, 4)] hR.2.1 wt_cf1 rfl (Nat.le_of_ble_eq_true rfl) rfl rfl (wt_g2 25 rfl rfl) (fun _ => rfl) (fun _ => rfl) wt_L77 rfl (Nat.le_of_ble_eq_true rfl) (Nat.le_of_ble_eq_true rfl) (by decide +kernel) wcd_pg_11 ?_
  refine wt_bn_aload_n hE wcd_pg_14 rfl ?_
  refine wt_bn_aload_n hE wcd_pg_15 rfl ?_
  refine wt_bn_putr (kf := 2) hE [(0, 9), (77, 3), (77, 4)] hR.2.1 wt_cf1 rfl (Nat.le_of_ble_eq_true rfl) rfl rfl (wt_g2 26 rfl rfl) (fun _ => rfl) (fun _ => rfl) wt_L77 rfl (Nat.le_of_ble_eq_true rfl) (Nat.le_of_ble_eq_true rfl) (by decide +kernel) wcd_pg_16 ?_
  refine wt_bn_aload_n hE wcd_pg_19 rfl ?_
  refine wt_bn_aload hE wcd_pg_20 rfl ?_
  refine wt_bn_putr (kf := 3) hE [(0, 9), (77, 4)] hR.2.1 wt_cf1 rfl (Nat.le_of_ble_eq_true rfl) rfl rfl (wt_g2 27 rfl rfl) (fun _ => rfl) (fun _ => rfl) wt_L77 rfl (Nat.le_of_ble_eq_true rfl) (Nat.le_of_ble_eq_true rfl) (by decide +kernel) wcd_pg_22 ?_
  refine wt_bn_aload_n hE wcd_pg_25 rfl ?_
  refine wt_bn_aload hE wcd_pg_26 rfl ?_
  refine wt_bn_putr (kf := 4) hE [(0, 9)] hR.2.1 wt_cf1 rfl (Nat.le_of_ble_eq_true rfl) rfl rfl (wt_g2 28 rfl rfl) (fun _ => rfl) (fun _ => rfl) wt_L77 rfl (Nat.le_of_ble_eq_true rfl) (Nat.le_of_ble_eq_true rfl) (by decide +kernel) wcd_pg_28 ?_
  refine wt_bn_aload_n hE wcd_pg_31 rfl ?_
  refine wt_bn_bipush hE (26 : Int32) wcd_pg_32 wt_cb_26 ?_
  refine wt_bn_newarr (N := 26) hE [(77, 5)] (wt_g1 69 rfl rfl) wt_L78 wt_cn_26.1 wt_cn_26.2 (Nat.le_of_ble_eq_true rfl) (by decide +kernel) rfl rfl (Nat.le_of_ble_eq_true rfl) (Nat.le_of_ble_eq_true rfl) wcd_pg_34 ?_
  refine wt_bn_putr (kf := 5) hE [(0, 9)] hR.2.1 wt_cf1 rfl (Nat.le_of_ble_eq_true rfl) rfl rfl (wt_g2 29 rfl rfl) (fun _ => rfl) (fun _ => rfl) wt_L77 rfl (Nat.le_of_ble_eq_true rfl) (Nat.le_of_ble_eq_true rfl) (by decide +kernel) wcd_pg_36 ?_
  refine wt_bn_aload_n hE wcd_pg_39 rfl ?_
  refine wt_bn_bipush hE (26 : Int32) wcd_pg_40 wt_cb_26 ?_
  refine wt_bn_newarr (N := 26) hE [(77, 6)] (wt_g1 69 rfl rfl) wt_L79 wt_cn_26.1 wt_cn_26.2 (Nat.le_of_ble_eq_true rfl) (by decide +kernel) rfl rfl (Nat.le_of_ble_eq_true rfl) (Nat.le_of_ble_eq_true rfl) wcd_pg_42 ?_
  refine wt_bn_putr (kf := 6) hE [(0, 9)] hR.2.1 wt_cf1 rfl (Nat.le_of_ble_eq_true rfl) rfl rfl (wt_g2 30 rfl rfl) (fun _ => rfl) (fun _ => rfl) wt_L77 rfl (Nat.le_of_ble_eq_true rfl) (Nat.le_of_ble_eq_true rfl) (by decide +kernel) wcd_pg_44 ?_
  refine wt_bn_aload_n hE wcd_pg_47 rfl ?_
  refine wt_bn_bipush hE (9 : Int32) wcd_pg_48 wt_cb_9 ?_
  refine wt_bn_newarr (N := 9) hE [(77, 7)] (wt_g1 69 rfl rfl) wt_L80 wt_cn_9.1 wt_cn_9.2 (Nat.le_of_ble_eq_true rfl) (by decide +kernel) rfl rfl (Nat.le_of_ble_eq_true rfl) (Nat.le_of_ble_eq_true rfl) wcd_pg_50 ?_
  refine wt_bn_putr (kf := 7) hE [(0, 9)] hR.2.1 wt_cf1 rfl (Nat.le_of_ble_eq_true rfl) rfl rfl (wt_g2 31 rfl rfl) (fun _ => rfl) (fun _ => rfl) wt_L77 rfl (Nat.le_of_ble_eq_true rfl) (Nat.le_of_ble_eq_true rfl) (by decide +kernel) wcd_pg_52 ?_
  exact wt_bn_ret (k0 := 4) hE hR (Nat.le_of_ble_eq_true rfl) (Nat.le_of_ble_eq_true rfl) wcd_pg_55
def wb52ctr_prog_4_method_1_code_r2 : List (List Nat) := [16, 12, 188, 10, 181, 0, 41, 42, 2, 181, 0, 44, 177] :: []
def wb52ctr_prog_4_method_1_code_r1 : List (List Nat) := [181, 0, 27, 42, 16, 60, 188, 10, 181, 0, 31, 42, 16, 26, 188, 10, 181, 0, 35, 42, 16, 12, 188, 10, 181, 0, 38, 42] :: wb52ctr_prog_4_method_1_code_r2
def wb52ctr_prog_4_method_1_code_r0 : List (List Nat) := [42, 183, 0, 3, 42, 43, 181, 0, 9, 42, 44, 181, 0, 15, 42, 45, 181, 0, 19, 42, 25, 4, 181, 0, 23, 42, 25, 5] :: wb52ctr_prog_4_method_1_code_r1
set_option maxRecDepth 100000 in
theorem wb52ctr_prog_4_method_1_code_c0 : wt_cs prog_4_method_1_code 0 wb52ctr_prog_4_method_1_code_r0 := wt_cs_of (by decide +kernel)
theorem wb52ctr_prog_4_method_1_code_c1 : wt_cs prog_4_method_1_code 28 wb52ctr_prog_4_method_1_code_r1 := wt_cs_tl (m := 28) wb52ctr_prog_4_method_1_code_c0 rfl rfl
theorem wb52ctr_prog_4_method_1_code_c2 : wt_cs prog_4_method_1_code 56 wb52ctr_prog_4_method_1_code_r2 := wt_cs_tl (m := 28) wb52ctr_prog_4_method_1_code_c1 rfl rfl
theorem wcd_rw_0 : decode prog_4_method_1_code 0 = .ok (.aload_n 0, 1) := wt_op42 wb52ctr_prog_4_method_1_code_c0 0 rfl rfl
theorem wcd_rw_1 : decode prog_4_method_1_code 1 = .ok (.invokespecial 3, 3) := wt_op183 wb52ctr_prog_4_method_1_code_c0 1 rfl rfl rfl
theorem wcd_rw_4 : decode prog_4_method_1_code 4 = .ok (.aload_n 0, 1) := wt_op42 wb52ctr_prog_4_method_1_code_c0 4 rfl rfl
theorem wcd_rw_5 : decode prog_4_method_1_code 5 = .ok (.aload_n 1, 1) := wt_op43 wb52ctr_prog_4_method_1_code_c0 5 rfl rfl
theorem wcd_rw_6 : decode prog_4_method_1_code 6 = .ok (.putfield 9, 3) := wt_op181 wb52ctr_prog_4_method_1_code_c0 6 rfl rfl rfl
theorem wcd_rw_9 : decode prog_4_method_1_code 9 = .ok (.aload_n 0, 1) := wt_op42 wb52ctr_prog_4_method_1_code_c0 9 rfl rfl
theorem wcd_rw_10 : decode prog_4_method_1_code 10 = .ok (.aload_n 2, 1) := wt_op44 wb52ctr_prog_4_method_1_code_c0 10 rfl rfl
theorem wcd_rw_11 : decode prog_4_method_1_code 11 = .ok (.putfield 15, 3) := wt_op181 wb52ctr_prog_4_method_1_code_c0 11 rfl rfl rfl
theorem wcd_rw_14 : decode prog_4_method_1_code 14 = .ok (.aload_n 0, 1) := wt_op42 wb52ctr_prog_4_method_1_code_c0 14 rfl rfl
theorem wcd_rw_15 : decode prog_4_method_1_code 15 = .ok (.aload_n 3, 1) := wt_op45 wb52ctr_prog_4_method_1_code_c0 15 rfl rfl
theorem wcd_rw_16 : decode prog_4_method_1_code 16 = .ok (.putfield 19, 3) := wt_op181 wb52ctr_prog_4_method_1_code_c0 16 rfl rfl rfl
theorem wcd_rw_19 : decode prog_4_method_1_code 19 = .ok (.aload_n 0, 1) := wt_op42 wb52ctr_prog_4_method_1_code_c0 19 rfl rfl
theorem wcd_rw_20 : decode prog_4_method_1_code 20 = .ok (.aload 4, 2) := wt_op25 wb52ctr_prog_4_method_1_code_c0 20 rfl rfl
theorem wcd_rw_22 : decode prog_4_method_1_code 22 = .ok (.putfield 23, 3) := wt_op181 wb52ctr_prog_4_method_1_code_c0 22 rfl rfl rfl
theorem wcd_rw_25 : decode prog_4_method_1_code 25 = .ok (.aload_n 0, 1) := wt_op42 wb52ctr_prog_4_method_1_code_c0 25 rfl rfl
theorem wcd_rw_26 : decode prog_4_method_1_code 26 = .ok (.aload 5, 2) := wt_op25 wb52ctr_prog_4_method_1_code_c0 26 rfl rfl
theorem wcd_rw_28 : decode prog_4_method_1_code 28 = .ok (.putfield 27, 3) := wt_op181 wb52ctr_prog_4_method_1_code_c1 0 rfl rfl rfl
theorem wcd_rw_31 : decode prog_4_method_1_code 31 = .ok (.aload_n 0, 1) := wt_op42 wb52ctr_prog_4_method_1_code_c1 3 rfl rfl
theorem wcd_rw_32 : decode prog_4_method_1_code 32 = .ok (.bipush 60, 2) := wt_op16 wb52ctr_prog_4_method_1_code_c1 4 rfl rfl rfl
theorem wcd_rw_34 : decode prog_4_method_1_code 34 = .ok (.newarray .int, 2) := wt_op188 wb52ctr_prog_4_method_1_code_c1 6 rfl rfl
theorem wcd_rw_36 : decode prog_4_method_1_code 36 = .ok (.putfield 31, 3) := wt_op181 wb52ctr_prog_4_method_1_code_c1 8 rfl rfl rfl
theorem wcd_rw_39 : decode prog_4_method_1_code 39 = .ok (.aload_n 0, 1) := wt_op42 wb52ctr_prog_4_method_1_code_c1 11 rfl rfl
theorem wcd_rw_40 : decode prog_4_method_1_code 40 = .ok (.bipush 26, 2) := wt_op16 wb52ctr_prog_4_method_1_code_c1 12 rfl rfl rfl
theorem wcd_rw_42 : decode prog_4_method_1_code 42 = .ok (.newarray .int, 2) := wt_op188 wb52ctr_prog_4_method_1_code_c1 14 rfl rfl
theorem wcd_rw_44 : decode prog_4_method_1_code 44 = .ok (.putfield 35, 3) := wt_op181 wb52ctr_prog_4_method_1_code_c1 16 rfl rfl rfl
theorem wcd_rw_47 : decode prog_4_method_1_code 47 = .ok (.aload_n 0, 1) := wt_op42 wb52ctr_prog_4_method_1_code_c1 19 rfl rfl
theorem wcd_rw_48 : decode prog_4_method_1_code 48 = .ok (.bipush 12, 2) := wt_op16 wb52ctr_prog_4_method_1_code_c1 20 rfl rfl rfl
theorem wcd_rw_50 : decode prog_4_method_1_code 50 = .ok (.newarray .int, 2) := wt_op188 wb52ctr_prog_4_method_1_code_c1 22 rfl rfl
theorem wcd_rw_52 : decode prog_4_method_1_code 52 = .ok (.putfield 38, 3) := wt_op181 wb52ctr_prog_4_method_1_code_c1 24 rfl rfl rfl
theorem wcd_rw_55 : decode prog_4_method_1_code 55 = .ok (.aload_n 0, 1) := wt_op42 wb52ctr_prog_4_method_1_code_c1 27 rfl rfl
theorem wcd_rw_56 : decode prog_4_method_1_code 56 = .ok (.bipush 12, 2) := wt_op16 wb52ctr_prog_4_method_1_code_c2 0 rfl rfl rfl
theorem wcd_rw_58 : decode prog_4_method_1_code 58 = .ok (.newarray .int, 2) := wt_op188 wb52ctr_prog_4_method_1_code_c2 2 rfl rfl
theorem wcd_rw_60 : decode prog_4_method_1_code 60 = .ok (.putfield 41, 3) := wt_op181 wb52ctr_prog_4_method_1_code_c2 4 rfl rfl rfl
theorem wcd_rw_63 : decode prog_4_method_1_code 63 = .ok (.aload_n 0, 1) := wt_op42 wb52ctr_prog_4_method_1_code_c2 7 rfl rfl
theorem wcd_rw_64 : decode prog_4_method_1_code 64 = .ok (.iconst (-1), 1) := wt_op2 wb52ctr_prog_4_method_1_code_c2 8 rfl rfl
theorem wcd_rw_65 : decode prog_4_method_1_code 65 = .ok (.putfield 44, 3) := wt_op181 wb52ctr_prog_4_method_1_code_c2 9 rfl rfl rfl
theorem wcd_rw_68 : decode prog_4_method_1_code 68 = .ok (.return_, 1) := wt_op177 wb52ctr_prog_4_method_1_code_c2 12 rfl rfl
set_option maxRecDepth 100000 in
set_option maxHeartbeats 4000000 in
theorem wc_rw_81_z {σ : wt_St} (hz0 : wt_zero σ 82) : wt_zero (wt_sf σ 81 9 (-1 : Int32)) 86 := by
  have hz1 : wt_zero (wt_sf σ 81 9 (-1 : Int32)) 86 := (hz0.mono (by decide)).sf (by decide)
  exact hz1.mono (by decide)
set_option maxRecDepth 100000 in
set_option maxHeartbeats 40000000 in
theorem wc_rw_81 {l : Launch} {w : wt_E} {σ : wt_St} (hdm : ∀ i, wt_dom w i ↔ i < 82) (hz0 : wt_zero σ 82) : wt_CtrB wt_SA l w wt_y_rw_init prog_4_method_1_code 6 1 7 [.inr 81, .inr 4, .inr 20, .inr 34, .inr 39, .inr 76] 82 86 [(0, 10), (81, 0), (81, 1), (81, 2), (81, 3), (81, 4)] [(0, 10)] σ (wt_sf σ 81 9 (-1 : Int32)) := by
  have hz1 : wt_zero (wt_sf σ 81 9 (-1 : Int32)) 86 := (hz0.mono (by decide)).sf (by decide)
  refine wt_ctrB hdm hz0 wt_pl_rw_init rfl (Nat.le_of_ble_eq_true rfl) [some (.inr 81), some (.inr 4), some (.inr 20), some (.inr 34), some (.inr 39), some (.inr 76)] rfl ?_
  intro X hXl hXw hE hR hSA
  subst hXl
  subst hXw
  have hE : wt_Ok X prog_4_method_1_code 6 "WornType$Rows" 1 7 := hE
  refine wt_bn_aload_n hE wcd_rw_0 rfl ?_
  refine wt_bn_obj hE (wt_g2 54 rfl rfl) (wt_g1 31 rfl rfl) (wt_g1 32 rfl rfl) (by omega) (by decide) wcd_rw_1 ?_
  refine wt_bn_aload_n hE wcd_rw_4 rfl ?_
  refine wt_bn_aload_n hE wcd_rw_5 rfl ?_
  refine wt_bn_putr (kf := 0) hE [(0, 10), (81, 1), (81, 2), (81, 3), (81, 4)] hR.2.1 wt_cf2 rfl (Nat.le_of_ble_eq_true rfl) rfl rfl (wt_g2 55 rfl rfl) (fun _ => rfl) (fun _ => rfl) wt_L81 rfl (Nat.le_of_ble_eq_true rfl) (Nat.le_of_ble_eq_true rfl) (by decide +kernel) wcd_rw_6 ?_
  refine wt_bn_aload_n hE wcd_rw_9 rfl ?_
  refine wt_bn_aload_n hE wcd_rw_10 rfl ?_
  refine wt_bn_putr (kf := 1) hE [(0, 10), (81, 2), (81, 3), (81, 4)] hR.2.1 wt_cf2 rfl (Nat.le_of_ble_eq_true rfl) rfl rfl (wt_g2 56 rfl rfl) (fun _ => rfl) (fun _ => rfl) wt_L81 rfl (Nat.le_of_ble_eq_true rfl) (Nat.le_of_ble_eq_true rfl) (by decide +kernel) wcd_rw_11 ?_
  refine wt_bn_aload_n hE wcd_rw_14 rfl ?_
  refine wt_bn_aload_n hE wcd_rw_15 rfl ?_
  refine wt_bn_putr (kf := 2) hE [(0, 10), (81, 3), (81, 4)] hR.2.1 wt_cf2 rfl (Nat.le_of_ble_eq_true rfl) rfl rfl (wt_g2 57 rfl rfl) (fun _ => rfl) (fun _ => rfl) wt_L81 rfl (Nat.le_of_ble_eq_true rfl) (Nat.le_of_ble_eq_true rfl) (by decide +kernel) wcd_rw_16 ?_
  refine wt_bn_aload_n hE wcd_rw_19 rfl ?_
  refine wt_bn_aload hE wcd_rw_20 rfl ?_
  refine wt_bn_putr (kf := 3) hE [(0, 10), (81, 4)] hR.2.1 wt_cf2 rfl (Nat.le_of_ble_eq_true rfl) rfl rfl (wt_g2 58 rfl rfl) (fun _ => rfl) (fun _ => rfl) wt_L81 rfl (Nat.le_of_ble_eq_true rfl) (Nat.le_of_ble_eq_true rfl) (by decide +kernel) wcd_rw_22 ?_
  refine wt_bn_aload_n hE wcd_rw_25 rfl ?_
  refine wt_bn_aload hE wcd_rw_26 rfl ?_
  refine wt_bn_putr (kf := 4) hE [(0, 10)] hR.2.1 wt_cf2 rfl (Nat.le_of_ble_eq_true rfl) rfl rfl (wt_g2 59 rfl rfl) (fun _ => rfl) (fun _ => rfl) wt_L81 rfl (Nat.le_of_ble_eq_true rfl) (Nat.le_of_ble_eq_true rfl) (by decide +kernel) wcd_rw_28 ?_
  refine wt_bn_aload_n hE wcd_rw_31 rfl ?_
  refine wt_bn_bipush hE (60 : Int32) wcd_rw_32 wt_cb_60 ?_
  refine wt_bn_newarr (N := 60) hE [(81, 5)] (wt_g1 69 rfl rfl) wt_L82 wt_cn_60.1 wt_cn_60.2 (Nat.le_of_ble_eq_true rfl) (by decide +kernel) rfl rfl (Nat.le_of_ble_eq_true rfl) (Nat.le_of_ble_eq_true rfl) wcd_rw_34 ?_
  refine wt_bn_putr (kf := 5) hE [(0, 10)] hR.2.1 wt_cf2 rfl (Nat.le_of_ble_eq_true rfl) rfl rfl (wt_g2 60 rfl rfl) (fun _ => rfl) (fun _ => rfl) wt_L81 rfl (Nat.le_of_ble_eq_true rfl) (Nat.le_of_ble_eq_true rfl) (by decide +kernel) wcd_rw_36 ?_
  refine wt_bn_aload_n hE wcd_rw_39 rfl ?_
  refine wt_bn_bipush hE (26 : Int32) wcd_rw_40 wt_cb_26 ?_
  refine wt_bn_newarr (N := 26) hE [(81, 6)] (wt_g1 69 rfl rfl) wt_L83 wt_cn_26.1 wt_cn_26.2 (Nat.le_of_ble_eq_true rfl) (by decide +kernel) rfl rfl (Nat.le_of_ble_eq_true rfl) (Nat.le_of_ble_eq_true rfl) wcd_rw_42 ?_
  refine wt_bn_putr (kf := 6) hE [(0, 10)] hR.2.1 wt_cf2 rfl (Nat.le_of_ble_eq_true rfl) rfl rfl (wt_g2 61 rfl rfl) (fun _ => rfl) (fun _ => rfl) wt_L81 rfl (Nat.le_of_ble_eq_true rfl) (Nat.le_of_ble_eq_true rfl) (by decide +kernel) wcd_rw_44 ?_
  refine wt_bn_aload_n hE wcd_rw_47 rfl ?_
  refine wt_bn_bipush hE (12 : Int32) wcd_rw_48 wt_cb_12 ?_
  refine wt_bn_newarr (N := 12) hE [(81, 7)] (wt_g1 69 rfl rfl) wt_L84 wt_cn_12.1 wt_cn_12.2 (Nat.le_of_ble_eq_true rfl) (by decide +kernel) rfl rfl (Nat.le_of_ble_eq_true rfl) (Nat.le_of_ble_eq_true rfl) wcd_rw_50 ?_
  refine wt_bn_putr (kf := 7) hE [(0, 10)] hR.2.1 wt_cf2 rfl (Nat.le_of_ble_eq_true rfl) rfl rfl (wt_g2 62 rfl rfl) (fun _ => rfl) (fun _ => rfl) wt_L81 rfl (Nat.le_of_ble_eq_true rfl) (Nat.le_of_ble_eq_true rfl) (by decide +kernel) wcd_rw_52 ?_
  refine wt_bn_aload_n hE wcd_rw_55 rfl ?_
  refine wt_bn_bipush hE (12 : Int32) wcd_rw_56 wt_cb_12 ?_
  refine wt_bn_newarr (N := 12) hE [(81, 8)] (wt_g1 69 rfl rfl) wt_L85 wt_cn_12.1 wt_cn_12.2 (Nat.le_of_ble_eq_true rfl) (by decide +kernel) rfl rfl (Nat.le_of_ble_eq_true rfl) (Nat.le_of_ble_eq_true rfl) wcd_rw_58 ?_
  refine wt_bn_putr (kf := 8) hE [(0, 10)] hR.2.1 wt_cf2 rfl (Nat.le_of_ble_eq_true rfl) rfl rfl (wt_g2 63 rfl rfl) (fun _ => rfl) (fun _ => rfl) wt_L81 rfl (Nat.le_of_ble_eq_true rfl) (Nat.le_of_ble_eq_true rfl) (by decide +kernel) wcd_rw_60 ?_
  refine wt_bn_aload_n hE wcd_rw_63 rfl ?_
  refine wt_bn_iconst hE (-1 : Int32) wcd_rw_64 wt_ci_m1 ?_
  refine wt_bn_puti (kf := 9) hE wt_cf2 rfl (by decide) rfl rfl (wt_g2 64 rfl rfl) rfl wt_L81 rfl (by decide) wcd_rw_65 ?_
  exact wt_bn_ret (k0 := 7) hE hR (Nat.le_of_ble_eq_true rfl) (Nat.le_of_ble_eq_true rfl) wcd_rw_68
def wb52ctr_prog_11_method_1_code_r2 : List (List Nat) := [16, 26, 188, 10, 181, 0, 39, 177] :: []
def wb52ctr_prog_11_method_1_code_r1 : List (List Nat) := [17, 1, 56, 197, 0, 27, 2, 181, 0, 29, 42, 17, 1, 56, 188, 10, 181, 0, 32, 42, 16, 10, 188, 10, 181, 0, 36, 42] :: wb52ctr_prog_11_method_1_code_r2
def wb52ctr_prog_11_method_1_code_r0 : List (List Nat) := [42, 183, 0, 3, 42, 43, 181, 0, 9, 42, 44, 181, 0, 15, 42, 45, 181, 0, 19, 42, 25, 4, 181, 0, 23, 42, 16, 10] :: wb52ctr_prog_11_method_1_code_r1
set_option maxRecDepth 100000 in
theorem wb52ctr_prog_11_method_1_code_c0 : wt_cs prog_11_method_1_code 0 wb52ctr_prog_11_method_1_code_r0 := wt_cs_of (by decide +kernel)
theorem wb52ctr_prog_11_method_1_code_c1 : wt_cs prog_11_method_1_code 28 wb52ctr_prog_11_method_1_code_r1 := wt_cs_tl (m := 28) wb52ctr_prog_11_method_1_code_c0 rfl rfl
theorem wb52ctr_prog_11_method_1_code_c2 : wt_cs prog_11_method_1_code 56 wb52ctr_prog_11_method_1_code_r2 := wt_cs_tl (m := 28) wb52ctr_prog_11_method_1_code_c1 rfl rfl
theorem wcd_wk_0 : decode prog_11_method_1_code 0 = .ok (.aload_n 0, 1) := wt_op42 wb52ctr_prog_11_method_1_code_c0 0 rfl rfl
theorem wcd_wk_1 : decode prog_11_method_1_code 1 = .ok (.invokespecial 3, 3) := wt_op183 wb52ctr_prog_11_method_1_code_c0 1 rfl rfl rfl
theorem wcd_wk_4 : decode prog_11_method_1_code 4 = .ok (.aload_n 0, 1) := wt_op42 wb52ctr_prog_11_method_1_code_c0 4 rfl rfl
theorem wcd_wk_5 : decode prog_11_method_1_code 5 = .ok (.aload_n 1, 1) := wt_op43 wb52ctr_prog_11_method_1_code_c0 5 rfl rfl
theorem wcd_wk_6 : decode prog_11_method_1_code 6 = .ok (.putfield 9, 3) := wt_op181 wb52ctr_prog_11_method_1_code_c0 6 rfl rfl rfl
theorem wcd_wk_9 : decode prog_11_method_1_code 9 = .ok (.aload_n 0, 1) := wt_op42 wb52ctr_prog_11_method_1_code_c0 9 rfl rfl
theorem wcd_wk_10 : decode prog_11_method_1_code 10 = .ok (.aload_n 2, 1) := wt_op44 wb52ctr_prog_11_method_1_code_c0 10 rfl rfl
theorem wcd_wk_11 : decode prog_11_method_1_code 11 = .ok (.putfield 15, 3) := wt_op181 wb52ctr_prog_11_method_1_code_c0 11 rfl rfl rfl
theorem wcd_wk_14 : decode prog_11_method_1_code 14 = .ok (.aload_n 0, 1) := wt_op42 wb52ctr_prog_11_method_1_code_c0 14 rfl rfl
theorem wcd_wk_15 : decode prog_11_method_1_code 15 = .ok (.aload_n 3, 1) := wt_op45 wb52ctr_prog_11_method_1_code_c0 15 rfl rfl
theorem wcd_wk_16 : decode prog_11_method_1_code 16 = .ok (.putfield 19, 3) := wt_op181 wb52ctr_prog_11_method_1_code_c0 16 rfl rfl rfl
theorem wcd_wk_19 : decode prog_11_method_1_code 19 = .ok (.aload_n 0, 1) := wt_op42 wb52ctr_prog_11_method_1_code_c0 19 rfl rfl
theorem wcd_wk_20 : decode prog_11_method_1_code 20 = .ok (.aload 4, 2) := wt_op25 wb52ctr_prog_11_method_1_code_c0 20 rfl rfl
theorem wcd_wk_22 : decode prog_11_method_1_code 22 = .ok (.putfield 23, 3) := wt_op181 wb52ctr_prog_11_method_1_code_c0 22 rfl rfl rfl
theorem wcd_wk_25 : decode prog_11_method_1_code 25 = .ok (.aload_n 0, 1) := wt_op42 wb52ctr_prog_11_method_1_code_c0 25 rfl rfl
theorem wcd_wk_26 : decode prog_11_method_1_code 26 = .ok (.bipush 10, 2) := wt_op16 wb52ctr_prog_11_method_1_code_c0 26 rfl rfl rfl
theorem wcd_wk_28 : decode prog_11_method_1_code 28 = .ok (.sipush 312, 3) := wt_op17 wb52ctr_prog_11_method_1_code_c1 0 rfl rfl rfl
theorem wcd_wk_31 : decode prog_11_method_1_code 31 = .ok (.multianewarray 27 2, 4) := by decide +kernel
theorem wcd_wk_35 : decode prog_11_method_1_code 35 = .ok (.putfield 29, 3) := wt_op181 wb52ctr_prog_11_method_1_code_c1 7 rfl rfl rfl
theorem wcd_wk_38 : decode prog_11_method_1_code 38 = .ok (.aload_n 0, 1) := wt_op42 wb52ctr_prog_11_method_1_code_c1 10 rfl rfl
theorem wcd_wk_39 : decode prog_11_method_1_code 39 = .ok (.sipush 312, 3) := wt_op17 wb52ctr_prog_11_method_1_code_c1 11 rfl rfl rfl
theorem wcd_wk_42 : decode prog_11_method_1_code 42 = .ok (.newarray .int, 2) := wt_op188 wb52ctr_prog_11_method_1_code_c1 14 rfl rfl
theorem wcd_wk_44 : decode prog_11_method_1_code 44 = .ok (.putfield 32, 3) := wt_op181 wb52ctr_prog_11_method_1_code_c1 16 rfl rfl rfl
theorem wcd_wk_47 : decode prog_11_method_1_code 47 = .ok (.aload_n 0, 1) := wt_op42 wb52ctr_prog_11_method_1_code_c1 19 rfl rfl
theorem wcd_wk_48 : decode prog_11_method_1_code 48 = .ok (.bipush 10, 2) := wt_op16 wb52ctr_prog_11_method_1_code_c1 20 rfl rfl rfl
theorem wcd_wk_50 : decode prog_11_method_1_code 50 = .ok (.newarray .int, 2) := wt_op188 wb52ctr_prog_11_method_1_code_c1 22 rfl rfl
theorem wcd_wk_52 : decode prog_11_method_1_code 52 = .ok (.putfield 36, 3) := wt_op181 wb52ctr_prog_11_method_1_code_c1 24 rfl rfl rfl
theorem wcd_wk_55 : decode prog_11_method_1_code 55 = .ok (.aload_n 0, 1) := wt_op42 wb52ctr_prog_11_method_1_code_c1 27 rfl rfl
theorem wcd_wk_56 : decode prog_11_method_1_code 56 = .ok (.bipush 26, 2) := wt_op16 wb52ctr_prog_11_method_1_code_c2 0 rfl rfl rfl
theorem wcd_wk_58 : decode prog_11_method_1_code 58 = .ok (.newarray .int, 2) := wt_op188 wb52ctr_prog_11_method_1_code_c2 2 rfl rfl
theorem wcd_wk_60 : decode prog_11_method_1_code 60 = .ok (.putfield 39, 3) := wt_op181 wb52ctr_prog_11_method_1_code_c2 4 rfl rfl rfl
theorem wcd_wk_63 : decode prog_11_method_1_code 63 = .ok (.return_, 1) := wt_op177 wb52ctr_prog_11_method_1_code_c2 7 rfl rfl
set_option maxRecDepth 100000 in
set_option maxHeartbeats 4000000 in
theorem wc_wk_86_z {σ : wt_St} (hz0 : wt_zero σ 87) : wt_zero σ 101 := by

  exact hz0.mono (by decide)
set_option maxRecDepth 100000 in
set_option maxHeartbeats 40000000 in
theorem wc_wk_86 {l : Launch} {w : wt_E} {σ : wt_St} (hdm : ∀ i, wt_dom w i ↔ i < 87) (hz0 : wt_zero σ 87) : wt_CtrB wt_SA l w wt_y_wk_init prog_11_method_1_code 5 1 218 [.inr 86, .inr 20, .inr 34, .inr 39, .inr 76] 87 101 [(0, 11), (86, 0), (86, 1), (86, 2), (86, 3)] [(0, 11)] σ σ := by

  refine wt_ctrB hdm hz0 wt_pl_wk_init rfl (Nat.le_of_ble_eq_true rfl) [some (.inr 86), some (.inr 20), some (.inr 34), some (.inr 39), some (.inr 76)] rfl ?_
  intro X hXl hXw hE hR hSA
  subst hXl
  subst hXw
  have hE : wt_Ok X prog_11_method_1_code 5 "WornType$Weeks" 1 218 := hE
  refine wt_bn_aload_n hE wcd_wk_0 rfl ?_
  refine wt_bn_obj hE (wt_g2 91 rfl rfl) (wt_g1 31 rfl rfl) (wt_g1 32 rfl rfl) (by omega) (by decide) wcd_wk_1 ?_
  refine wt_bn_aload_n hE wcd_wk_4 rfl ?_
  refine wt_bn_aload_n hE wcd_wk_5 rfl ?_
  refine wt_bn_putr (kf := 0) hE [(0, 11), (86, 1), (86, 2), (86, 3)] hR.2.1 wt_cf9 rfl (Nat.le_of_ble_eq_true rfl) rfl rfl (wt_g2 94 rfl rfl) (fun _ => rfl) (fun _ => rfl) wt_L86 rfl (Nat.le_of_ble_eq_true rfl) (Nat.le_of_ble_eq_true rfl) (by decide +kernel) wcd_wk_6 ?_
  refine wt_bn_aload_n hE wcd_wk_9 rfl ?_
  refine wt_bn_aload_n hE wcd_wk_10 rfl ?_
  refine wt_bn_putr (kf := 1) hE [(0, 11), (86, 2), (86, 3)] hR.2.1 wt_cf9 rfl (Nat.le_of_ble_eq_true rfl) rfl rfl (wt_g2 95 rfl rfl) (fun _ => rfl) (fun _ => rfl) wt_L86 rfl (Nat.le_of_ble_eq_true rfl) (Nat.le_of_ble_eq_true rfl) (by decide +kernel) wcd_wk_11 ?_
  refine wt_bn_aload_n hE wcd_wk_14 rfl ?_
  refine wt_bn_aload_n hE wcd_wk_15 rfl ?_
  refine wt_bn_putr (kf := 2) hE [(0, 11), (86, 3)] hR.2.1 wt_cf9 rfl (Nat.le_of_ble_eq_true rfl) rfl rfl (wt_g2 96 rfl rfl) (fun _ => rfl) (fun _ => rfl) wt_L86 rfl (Nat.le_of_ble_eq_true rfl) (Nat.le_of_ble_eq_true rfl) (by decide +kernel) wcd_wk_16 ?_
  refine wt_bn_aload_n hE wcd_wk_19 rfl ?_
  refine wt_bn_aload hE wcd_wk_20 rfl ?_
  refine wt_bn_putr (kf := 3) hE [(0, 11)] hR.2.1 wt_cf9 rfl (Nat.le_of_ble_eq_true rfl) rfl rfl (wt_g2 97 rfl rfl) (fun _ => rfl) (fun _ => rfl) wt_L86 rfl (Nat.le_of_ble_eq_true rfl) (Nat.le_of_ble_eq_true rfl) (by decide +kernel) wcd_wk_22 ?_
  refine wt_bn_aload_n hE wcd_wk_25 rfl ?_
  refine wt_bn_bipush hE (10 : Int32) wcd_wk_26 wt_cb_10 ?_
  refine wt_bn_sipush hE (312 : Int32) wcd_wk_28 wt_cs_312 ?_
  refine wt_bn_mna (N := 10) (M := 312) hE hSA.2 [(86, 4)] (wt_g2 92 rfl rfl) (wt_g1 69 rfl rfl) wt_L87 (fun i hi => wt_G88 i hi) (by decide) (by decide) (by decide) (by decide) (Nat.le_of_ble_eq_true rfl) (Nat.le_of_ble_eq_true rfl) (by decide +kernel) (Nat.le_of_ble_eq_true rfl) rfl rfl (Nat.le_of_ble_eq_true rfl) (Nat.le_of_ble_eq_true rfl) wcd_wk_31 ?_
  refine wt_bn_putr (kf := 4) hE [(0, 11)] hR.2.1 wt_cf9 rfl (Nat.le_of_ble_eq_true rfl) rfl rfl (wt_g2 98 rfl rfl) (fun _ => rfl) (fun _ => rfl) wt_L86 rfl (Nat.le_of_ble_eq_true rfl) (Nat.le_of_ble_eq_true rfl) (by decide +kernel) wcd_wk_35 ?_
  refine wt_bn_aload_n hE wcd_wk_38 rfl ?_
  refine wt_bn_sipush hE (312 : Int32) wcd_wk_39 wt_cs_312 ?_
  refine wt_bn_newarr (N := 312) hE [(86, 5)] (wt_g1 69 rfl rfl) wt_L98 wt_cn_312.1 wt_cn_312.2 (Nat.le_of_ble_eq_true rfl) (by decide +kernel) rfl rfl (Nat.le_of_ble_eq_true rfl) (Nat.le_of_ble_eq_true rfl) wcd_wk_42 ?_
  refine wt_bn_putr (kf := 5) hE [(0, 11)] hR.2.1 wt_cf9 rfl (Nat.le_of_ble_eq_true rfl) rfl rfl (wt_g2 99 rfl rfl) (fun _ => rfl) (fun _ => rfl) wt_L86 rfl (Nat.le_of_ble_eq_true rfl) (Nat.le_of_ble_eq_true rfl) (by decide +kernel) wcd_wk_44 ?_
  refine wt_bn_aload_n hE wcd_wk_47 rfl ?_
  refine wt_bn_bipush hE (10 : Int32) wcd_wk_48 wt_cb_10 ?_
  refine wt_bn_newarr (N := 10) hE [(86, 6)] (wt_g1 69 rfl rfl) wt_L99 wt_cn_10.1 wt_cn_10.2 (Nat.le_of_ble_eq_true rfl) (by decide +kernel) rfl rfl (Nat.le_of_ble_eq_true rfl) (Nat.le_of_ble_eq_true rfl) wcd_wk_50 ?_
  refine wt_bn_putr (kf := 6) hE [(0, 11)] hR.2.1 wt_cf9 rfl (Nat.le_of_ble_eq_true rfl) rfl rfl (wt_g2 100 rfl rfl) (fun _ => rfl) (fun _ => rfl) wt_L86 rfl (Nat.le_of_ble_eq_true rfl) (Nat.le_of_ble_eq_true rfl) (by decide +kernel) wcd_wk_52 ?_
  refine wt_bn_aload_n hE wcd_wk_55 rfl ?_
  refine wt_bn_bipush hE (26 : Int32) wcd_wk_56 wt_cb_26 ?_
  refine wt_bn_newarr (N := 26) hE [(86, 7)] (wt_g1 69 rfl rfl) wt_L100 wt_cn_26.1 wt_cn_26.2 (Nat.le_of_ble_eq_true rfl) (by decide +kernel) rfl rfl (Nat.le_of_ble_eq_true rfl) (Nat.le_of_ble_eq_true rfl) wcd_wk_58 ?_
  refine wt_bn_putr (kf := 7) hE [(0, 11)] hR.2.1 wt_cf9 rfl (Nat.le_of_ble_eq_true rfl) rfl rfl (wt_g2 101 rfl rfl) (fun _ => rfl) (fun _ => rfl) wt_L86 rfl (Nat.le_of_ble_eq_true rfl) (Nat.le_of_ble_eq_true rfl) (by decide +kernel) wcd_wk_60 ?_
  exact wt_bn_ret (k0 := 218) hE hR (Nat.le_of_ble_eq_true rfl) (Nat.le_of_ble_eq_true rfl) wcd_wk_63
def wb52ctr_prog_10_method_1_code_r2 : List (List Nat) := [42, 16, 26, 188, 10, 181, 0, 40, 177] :: []
def wb52ctr_prog_10_method_1_code_r1 : List (List Nat) := [188, 10, 181, 0, 27, 42, 16, 26, 188, 10, 181, 0, 31, 42, 16, 26, 188, 10, 181, 0, 34, 42, 16, 26, 188, 10, 181, 0, 37] :: wb52ctr_prog_10_method_1_code_r2
def wb52ctr_prog_10_method_1_code_r0 : List (List Nat) := [42, 183, 0, 3, 42, 43, 181, 0, 9, 42, 44, 181, 0, 15, 42, 45, 181, 0, 19, 42, 25, 4, 181, 0, 23, 42, 16, 26] :: wb52ctr_prog_10_method_1_code_r1
set_option maxRecDepth 100000 in
theorem wb52ctr_prog_10_method_1_code_c0 : wt_cs prog_10_method_1_code 0 wb52ctr_prog_10_method_1_code_r0 := wt_cs_of (by decide +kernel)
theorem wb52ctr_prog_10_method_1_code_c1 : wt_cs prog_10_method_1_code 28 wb52ctr_prog_10_method_1_code_r1 := wt_cs_tl (m := 28) wb52ctr_prog_10_method_1_code_c0 rfl rfl
theorem wb52ctr_prog_10_method_1_code_c2 : wt_cs prog_10_method_1_code 57 wb52ctr_prog_10_method_1_code_r2 := wt_cs_tl (m := 29) wb52ctr_prog_10_method_1_code_c1 rfl rfl
theorem wcd_tr_0 : decode prog_10_method_1_code 0 = .ok (.aload_n 0, 1) := wt_op42 wb52ctr_prog_10_method_1_code_c0 0 rfl rfl
theorem wcd_tr_1 : decode prog_10_method_1_code 1 = .ok (.invokespecial 3, 3) := wt_op183 wb52ctr_prog_10_method_1_code_c0 1 rfl rfl rfl
theorem wcd_tr_4 : decode prog_10_method_1_code 4 = .ok (.aload_n 0, 1) := wt_op42 wb52ctr_prog_10_method_1_code_c0 4 rfl rfl
theorem wcd_tr_5 : decode prog_10_method_1_code 5 = .ok (.aload_n 1, 1) := wt_op43 wb52ctr_prog_10_method_1_code_c0 5 rfl rfl
theorem wcd_tr_6 : decode prog_10_method_1_code 6 = .ok (.putfield 9, 3) := wt_op181 wb52ctr_prog_10_method_1_code_c0 6 rfl rfl rfl
theorem wcd_tr_9 : decode prog_10_method_1_code 9 = .ok (.aload_n 0, 1) := wt_op42 wb52ctr_prog_10_method_1_code_c0 9 rfl rfl
theorem wcd_tr_10 : decode prog_10_method_1_code 10 = .ok (.aload_n 2, 1) := wt_op44 wb52ctr_prog_10_method_1_code_c0 10 rfl rfl
theorem wcd_tr_11 : decode prog_10_method_1_code 11 = .ok (.putfield 15, 3) := wt_op181 wb52ctr_prog_10_method_1_code_c0 11 rfl rfl rfl
theorem wcd_tr_14 : decode prog_10_method_1_code 14 = .ok (.aload_n 0, 1) := wt_op42 wb52ctr_prog_10_method_1_code_c0 14 rfl rfl
theorem wcd_tr_15 : decode prog_10_method_1_code 15 = .ok (.aload_n 3, 1) := wt_op45 wb52ctr_prog_10_method_1_code_c0 15 rfl rfl
theorem wcd_tr_16 : decode prog_10_method_1_code 16 = .ok (.putfield 19, 3) := wt_op181 wb52ctr_prog_10_method_1_code_c0 16 rfl rfl rfl
theorem wcd_tr_19 : decode prog_10_method_1_code 19 = .ok (.aload_n 0, 1) := wt_op42 wb52ctr_prog_10_method_1_code_c0 19 rfl rfl
theorem wcd_tr_20 : decode prog_10_method_1_code 20 = .ok (.aload 4, 2) := wt_op25 wb52ctr_prog_10_method_1_code_c0 20 rfl rfl
theorem wcd_tr_22 : decode prog_10_method_1_code 22 = .ok (.putfield 23, 3) := wt_op181 wb52ctr_prog_10_method_1_code_c0 22 rfl rfl rfl
theorem wcd_tr_25 : decode prog_10_method_1_code 25 = .ok (.aload_n 0, 1) := wt_op42 wb52ctr_prog_10_method_1_code_c0 25 rfl rfl
theorem wcd_tr_26 : decode prog_10_method_1_code 26 = .ok (.bipush 26, 2) := wt_op16 wb52ctr_prog_10_method_1_code_c0 26 rfl rfl rfl
theorem wcd_tr_28 : decode prog_10_method_1_code 28 = .ok (.newarray .int, 2) := wt_op188 wb52ctr_prog_10_method_1_code_c1 0 rfl rfl
theorem wcd_tr_30 : decode prog_10_method_1_code 30 = .ok (.putfield 27, 3) := wt_op181 wb52ctr_prog_10_method_1_code_c1 2 rfl rfl rfl
theorem wcd_tr_33 : decode prog_10_method_1_code 33 = .ok (.aload_n 0, 1) := wt_op42 wb52ctr_prog_10_method_1_code_c1 5 rfl rfl
theorem wcd_tr_34 : decode prog_10_method_1_code 34 = .ok (.bipush 26, 2) := wt_op16 wb52ctr_prog_10_method_1_code_c1 6 rfl rfl rfl
theorem wcd_tr_36 : decode prog_10_method_1_code 36 = .ok (.newarray .int, 2) := wt_op188 wb52ctr_prog_10_method_1_code_c1 8 rfl rfl
theorem wcd_tr_38 : decode prog_10_method_1_code 38 = .ok (.putfield 31, 3) := wt_op181 wb52ctr_prog_10_method_1_code_c1 10 rfl rfl rfl
theorem wcd_tr_41 : decode prog_10_method_1_code 41 = .ok (.aload_n 0, 1) := wt_op42 wb52ctr_prog_10_method_1_code_c1 13 rfl rfl
theorem wcd_tr_42 : decode prog_10_method_1_code 42 = .ok (.bipush 26, 2) := wt_op16 wb52ctr_prog_10_method_1_code_c1 14 rfl rfl rfl
theorem wcd_tr_44 : decode prog_10_method_1_code 44 = .ok (.newarray .int, 2) := wt_op188 wb52ctr_prog_10_method_1_code_c1 16 rfl rfl
theorem wcd_tr_46 : decode prog_10_method_1_code 46 = .ok (.putfield 34, 3) := wt_op181 wb52ctr_prog_10_method_1_code_c1 18 rfl rfl rfl
theorem wcd_tr_49 : decode prog_10_method_1_code 49 = .ok (.aload_n 0, 1) := wt_op42 wb52ctr_prog_10_method_1_code_c1 21 rfl rfl
theorem wcd_tr_50 : decode prog_10_method_1_code 50 = .ok (.bipush 26, 2) := wt_op16 wb52ctr_prog_10_method_1_code_c1 22 rfl rfl rfl
theorem wcd_tr_52 : decode prog_10_method_1_code 52 = .ok (.newarray .int, 2) := wt_op188 wb52ctr_prog_10_method_1_code_c1 24 rfl rfl
theorem wcd_tr_54 : decode prog_10_method_1_code 54 = .ok (.putfield 37, 3) := wt_op181 wb52ctr_prog_10_method_1_code_c1 26 rfl rfl rfl
theorem wcd_tr_57 : decode prog_10_method_1_code 57 = .ok (.aload_n 0, 1) := wt_op42 wb52ctr_prog_10_method_1_code_c2 0 rfl rfl
theorem wcd_tr_58 : decode prog_10_method_1_code 58 = .ok (.bipush 26, 2) := wt_op16 wb52ctr_prog_10_method_1_code_c2 1 rfl rfl rfl
theorem wcd_tr_60 : decode prog_10_method_1_code 60 = .ok (.newarray .int, 2) := wt_op188 wb52ctr_prog_10_method_1_code_c2 3 rfl rfl
theorem wcd_tr_62 : decode prog_10_method_1_code 62 = .ok (.putfield 40, 3) := wt_op181 wb52ctr_prog_10_method_1_code_c2 5 rfl rfl rfl
theorem wcd_tr_65 : decode prog_10_method_1_code 65 = .ok (.return_, 1) := wt_op177 wb52ctr_prog_10_method_1_code_c2 8 rfl rfl
set_option maxRecDepth 100000 in
set_option maxHeartbeats 4000000 in
theorem wc_tr_101_z {σ : wt_St} (hz0 : wt_zero σ 102) : wt_zero σ 107 := by

  exact hz0.mono (by decide)
set_option maxRecDepth 100000 in
set_option maxHeartbeats 40000000 in
theorem wc_tr_101 {l : Launch} {w : wt_E} {σ : wt_St} (hdm : ∀ i, wt_dom w i ↔ i < 102) (hz0 : wt_zero σ 102) : wt_CtrB wt_SA l w wt_y_tr_init prog_10_method_1_code 5 1 9 [.inr 101, .inr 4, .inr 34, .inr 39, .inr 76] 102 107 [(0, 12), (101, 0), (101, 1), (101, 2), (101, 3)] [(0, 12)] σ σ := by

  refine wt_ctrB hdm hz0 wt_pl_tr_init rfl (Nat.le_of_ble_eq_true rfl) [some (.inr 101), some (.inr 4), some (.inr 34), some (.inr 39), some (.inr 76)] rfl ?_
  intro X hXl hXw hE hR hSA
  subst hXl
  subst hXw
  have hE : wt_Ok X prog_10_method_1_code 5 "WornType$Trade" 1 9 := hE
  refine wt_bn_aload_n hE wcd_tr_0 rfl ?_
  refine wt_bn_obj hE (wt_g2 136 rfl rfl) (wt_g1 31 rfl rfl) (wt_g1 32 rfl rfl) (by omega) (by decide) wcd_tr_1 ?_
  refine wt_bn_aload_n hE wcd_tr_4 rfl ?_
  refine wt_bn_aload_n hE wcd_tr_5 rfl ?_
  refine wt_bn_putr (kf := 0) hE [(0, 12), (101, 1), (101, 2), (101, 3)] hR.2.1 wt_cf8 rfl (Nat.le_of_ble_eq_true rfl) rfl rfl (wt_g2 137 rfl rfl) (fun _ => rfl) (fun _ => rfl) wt_L101 rfl (Nat.le_of_ble_eq_true rfl) (Nat.le_of_ble_eq_true rfl) (by decide +kernel) wcd_tr_6 ?_
  refine wt_bn_aload_n hE wcd_tr_9 rfl ?_
  refine wt_bn_aload_n hE wcd_tr_10 rfl ?_
  refine wt_bn_putr (kf := 1) hE [(0, 12), (101, 2), (101, 3)] hR.2.1 wt_cf8 rfl (Nat.le_of_ble_eq_true rfl) rfl rfl (wt_g2 138 rfl rfl) (fun _ => rfl) (fun _ => rfl) wt_L101 rfl (Nat.le_of_ble_eq_true rfl) (Nat.le_of_ble_eq_true rfl) (by decide +kernel) wcd_tr_11 ?_
  refine wt_bn_aload_n hE wcd_tr_14 rfl ?_
  refine wt_bn_aload_n hE wcd_tr_15 rfl ?_
  refine wt_bn_putr (kf := 2) hE [(0, 12), (101, 3)] hR.2.1 wt_cf8 rfl (Nat.le_of_ble_eq_true rfl) rfl rfl (wt_g2 139 rfl rfl) (fun _ => rfl) (fun _ => rfl) wt_L101 rfl (Nat.le_of_ble_eq_true rfl) (Nat.le_of_ble_eq_true rfl) (by decide +kernel) wcd_tr_16 ?_
  refine wt_bn_aload_n hE wcd_tr_19 rfl ?_
  refine wt_bn_aload hE wcd_tr_20 rfl ?_
  refine wt_bn_putr (kf := 3) hE [(0, 12)] hR.2.1 wt_cf8 rfl (Nat.le_of_ble_eq_true rfl) rfl rfl (wt_g2 140 rfl rfl) (fun _ => rfl) (fun _ => rfl) wt_L101 rfl (Nat.le_of_ble_eq_true rfl) (Nat.le_of_ble_eq_true rfl) (by decide +kernel) wcd_tr_22 ?_
  refine wt_bn_aload_n hE wcd_tr_25 rfl ?_
  refine wt_bn_bipush hE (26 : Int32) wcd_tr_26 wt_cb_26 ?_
  refine wt_bn_newarr (N := 26) hE [(101, 4)] (wt_g1 69 rfl rfl) wt_L102 wt_cn_26.1 wt_cn_26.2 (Nat.le_of_ble_eq_true rfl) (by decide +kernel) rfl rfl (Nat.le_of_ble_eq_true rfl) (Nat.le_of_ble_eq_true rfl) wcd_tr_28 ?_
  refine wt_bn_putr (kf := 4) hE [(0, 12)] hR.2.1 wt_cf8 rfl (Nat.le_of_ble_eq_true rfl) rfl rfl (wt_g2 141 rfl rfl) (fun _ => rfl) (fun _ => rfl) wt_L101 rfl (Nat.le_of_ble_eq_true rfl) (Nat.le_of_ble_eq_true rfl) (by decide +kernel) wcd_tr_30 ?_
  refine wt_bn_aload_n hE wcd_tr_33 rfl ?_
  refine wt_bn_bipush hE (26 : Int32) wcd_tr_34 wt_cb_26 ?_
  refine wt_bn_newarr (N := 26) hE [(101, 5)] (wt_g1 69 rfl rfl) wt_L103 wt_cn_26.1 wt_cn_26.2 (Nat.le_of_ble_eq_true rfl) (by decide +kernel) rfl rfl (Nat.le_of_ble_eq_true rfl) (Nat.le_of_ble_eq_true rfl) wcd_tr_36 ?_
  refine wt_bn_putr (kf := 5) hE [(0, 12)] hR.2.1 wt_cf8 rfl (Nat.le_of_ble_eq_true rfl) rfl rfl (wt_g2 142 rfl rfl) (fun _ => rfl) (fun _ => rfl) wt_L101 rfl (Nat.le_of_ble_eq_true rfl) (Nat.le_of_ble_eq_true rfl) (by decide +kernel) wcd_tr_38 ?_
  refine wt_bn_aload_n hE wcd_tr_41 rfl ?_
  refine wt_bn_bipush hE (26 : Int32) wcd_tr_42 wt_cb_26 ?_
  refine wt_bn_newarr (N := 26) hE [(101, 6)] (wt_g1 69 rfl rfl) wt_L104 wt_cn_26.1 wt_cn_26.2 (Nat.le_of_ble_eq_true rfl) (by decide +kernel) rfl rfl (Nat.le_of_ble_eq_true rfl) (Nat.le_of_ble_eq_true rfl) wcd_tr_44 ?_
  refine wt_bn_putr (kf := 6) hE [(0, 12)] hR.2.1 wt_cf8 rfl (Nat.le_of_ble_eq_true rfl) rfl rfl (wt_g2 143 rfl rfl) (fun _ => rfl) (fun _ => rfl) wt_L101 rfl (Nat.le_of_ble_eq_true rfl) (Nat.le_of_ble_eq_true rfl) (by decide +kernel) wcd_tr_46 ?_
  refine wt_bn_aload_n hE wcd_tr_49 rfl ?_
  refine wt_bn_bipush hE (26 : Int32) wcd_tr_50 wt_cb_26 ?_
  refine wt_bn_newarr (N := 26) hE [(101, 7)] (wt_g1 69 rfl rfl) wt_L105 wt_cn_26.1 wt_cn_26.2 (Nat.le_of_ble_eq_true rfl) (by decide +kernel) rfl rfl (Nat.le_of_ble_eq_true rfl) (Nat.le_of_ble_eq_true rfl) wcd_tr_52 ?_
  refine wt_bn_putr (kf := 7) hE [(0, 12)] hR.2.1 wt_cf8 rfl (Nat.le_of_ble_eq_true rfl) rfl rfl (wt_g2 144 rfl rfl) (fun _ => rfl) (fun _ => rfl) wt_L101 rfl (Nat.le_of_ble_eq_true rfl) (Nat.le_of_ble_eq_true rfl) (by decide +kernel) wcd_tr_54 ?_
  refine wt_bn_aload_n hE wcd_tr_57 rfl ?_
  refine wt_bn_bipush hE (26 : Int32) wcd_tr_58 wt_cb_26 ?_
  refine wt_bn_newarr (N := 26) hE [(101, 8)] (wt_g1 69 rfl rfl) wt_L106 wt_cn_26.1 wt_cn_26.2 (Nat.le_of_ble_eq_true rfl) (by decide +kernel) rfl rfl (Nat.le_of_ble_eq_true rfl) (Nat.le_of_ble_eq_true rfl) wcd_tr_60 ?_
  refine wt_bn_putr (kf := 8) hE [(0, 12)] hR.2.1 wt_cf8 rfl (Nat.le_of_ble_eq_true rfl) rfl rfl (wt_g2 145 rfl rfl) (fun _ => rfl) (fun _ => rfl) wt_L101 rfl (Nat.le_of_ble_eq_true rfl) (Nat.le_of_ble_eq_true rfl) (by decide +kernel) wcd_tr_62 ?_
  exact wt_bn_ret (k0 := 9) hE hR (Nat.le_of_ble_eq_true rfl) (Nat.le_of_ble_eq_true rfl) wcd_tr_65
def wb52ctr_prog_1_method_1_code_r9 : List (List Nat) := [42, 3, 181, 0, 101, 177] :: []
def wb52ctr_prog_1_method_1_code_r8 : List (List Nat) := [42, 180, 0, 19, 42, 180, 0, 39, 42, 180, 0, 46, 42, 180, 0, 59, 183, 0, 90, 181, 0, 93, 42, 16, 26, 188, 10, 181, 0, 97] :: wb52ctr_prog_1_method_1_code_r9
def wb52ctr_prog_1_method_1_code_r7 : List (List Nat) := [89, 42, 180, 0, 29, 42, 180, 0, 39, 42, 180, 0, 46, 42, 180, 0, 59, 183, 0, 81, 181, 0, 84, 42, 187, 0, 88, 89] :: wb52ctr_prog_1_method_1_code_r8
def wb52ctr_prog_1_method_1_code_r6 : List (List Nat) := [180, 0, 19, 42, 180, 0, 29, 42, 180, 0, 39, 42, 180, 0, 46, 42, 180, 0, 59, 183, 0, 74, 181, 0, 75, 42, 187, 0, 79] :: wb52ctr_prog_1_method_1_code_r7
def wb52ctr_prog_1_method_1_code_r5 : List (List Nat) := [42, 180, 0, 29, 42, 180, 0, 39, 42, 180, 0, 46, 42, 180, 0, 59, 183, 0, 65, 181, 0, 68, 42, 187, 0, 72, 89, 42] :: wb52ctr_prog_1_method_1_code_r6
def wb52ctr_prog_1_method_1_code_r4 : List (List Nat) := [42, 187, 0, 54, 89, 42, 180, 0, 19, 42, 180, 0, 46, 183, 0, 56, 181, 0, 59, 42, 187, 0, 63, 89, 42, 180, 0, 19] :: wb52ctr_prog_1_method_1_code_r5
def wb52ctr_prog_1_method_1_code_r3 : List (List Nat) := [3, 60, 27, 42, 180, 0, 50, 190, 162, 0, 22, 42, 180, 0, 50, 27, 187, 0, 43, 89, 183, 0, 45, 83, 132, 1, 1, 167, 255, 231] :: wb52ctr_prog_1_method_1_code_r4
def wb52ctr_prog_1_method_1_code_r2 : List (List Nat) := [42, 187, 0, 36, 89, 183, 0, 38, 181, 0, 39, 42, 187, 0, 43, 89, 183, 0, 45, 181, 0, 46, 42, 6, 189, 0, 43, 181, 0, 50] :: wb52ctr_prog_1_method_1_code_r3
def wb52ctr_prog_1_method_1_code_r1 : List (List Nat) := [89, 183, 0, 18, 181, 0, 23, 42, 187, 0, 26, 89, 183, 0, 28, 181, 0, 29, 42, 187, 0, 26, 89, 183, 0, 28, 181, 0, 33] :: wb52ctr_prog_1_method_1_code_r2
def wb52ctr_prog_1_method_1_code_r0 : List (List Nat) := [42, 183, 0, 3, 42, 187, 0, 9, 89, 183, 0, 11, 181, 0, 12, 42, 187, 0, 16, 89, 183, 0, 18, 181, 0, 19, 42, 187, 0, 16] :: wb52ctr_prog_1_method_1_code_r1
set_option maxRecDepth 100000 in
theorem wb52ctr_prog_1_method_1_code_c0 : wt_cs prog_1_method_1_code 0 wb52ctr_prog_1_method_1_code_r0 := wt_cs_of (by decide +kernel)
theorem wb52ctr_prog_1_method_1_code_c1 : wt_cs prog_1_method_1_code 30 wb52ctr_prog_1_method_1_code_r1 := wt_cs_tl (m := 30) wb52ctr_prog_1_method_1_code_c0 rfl rfl
theorem wb52ctr_prog_1_method_1_code_c2 : wt_cs prog_1_method_1_code 59 wb52ctr_prog_1_method_1_code_r2 := wt_cs_tl (m := 29) wb52ctr_prog_1_method_1_code_c1 rfl rfl
theorem wb52ctr_prog_1_method_1_code_c3 : wt_cs prog_1_method_1_code 89 wb52ctr_prog_1_method_1_code_r3 := wt_cs_tl (m := 30) wb52ctr_prog_1_method_1_code_c2 rfl rfl
theorem wb52ctr_prog_1_method_1_code_c4 : wt_cs prog_1_method_1_code 119 wb52ctr_prog_1_method_1_code_r4 := wt_cs_tl (m := 30) wb52ctr_prog_1_method_1_code_c3 rfl rfl
theorem wb52ctr_prog_1_method_1_code_c5 : wt_cs prog_1_method_1_code 147 wb52ctr_prog_1_method_1_code_r5 := wt_cs_tl (m := 28) wb52ctr_prog_1_method_1_code_c4 rfl rfl
theorem wb52ctr_prog_1_method_1_code_c6 : wt_cs prog_1_method_1_code 175 wb52ctr_prog_1_method_1_code_r6 := wt_cs_tl (m := 28) wb52ctr_prog_1_method_1_code_c5 rfl rfl
theorem wb52ctr_prog_1_method_1_code_c7 : wt_cs prog_1_method_1_code 204 wb52ctr_prog_1_method_1_code_r7 := wt_cs_tl (m := 29) wb52ctr_prog_1_method_1_code_c6 rfl rfl
theorem wb52ctr_prog_1_method_1_code_c8 : wt_cs prog_1_method_1_code 232 wb52ctr_prog_1_method_1_code_r8 := wt_cs_tl (m := 28) wb52ctr_prog_1_method_1_code_c7 rfl rfl
theorem wb52ctr_prog_1_method_1_code_c9 : wt_cs prog_1_method_1_code 262 wb52ctr_prog_1_method_1_code_r9 := wt_cs_tl (m := 30) wb52ctr_prog_1_method_1_code_c8 rfl rfl
theorem wcd_ap_0 : decode prog_1_method_1_code 0 = .ok (.aload_n 0, 1) := wt_op42 wb52ctr_prog_1_method_1_code_c0 0 rfl rfl
theorem wcd_ap_1 : decode prog_1_method_1_code 1 = .ok (.invokespecial 3, 3) := wt_op183 wb52ctr_prog_1_method_1_code_c0 1 rfl rfl rfl
theorem wcd_ap_4 : decode prog_1_method_1_code 4 = .ok (.aload_n 0, 1) := wt_op42 wb52ctr_prog_1_method_1_code_c0 4 rfl rfl
theorem wcd_ap_5 : decode prog_1_method_1_code 5 = .ok (.new 9, 3) := wt_op187 wb52ctr_prog_1_method_1_code_c0 5 rfl rfl rfl
theorem wcd_ap_8 : decode prog_1_method_1_code 8 = .ok (.dup, 1) := wt_op89 wb52ctr_prog_1_method_1_code_c0 8 rfl rfl
theorem wcd_ap_9 : decode prog_1_method_1_code 9 = .ok (.invokespecial 11, 3) := wt_op183 wb52ctr_prog_1_method_1_code_c0 9 rfl rfl rfl
theorem wcd_ap_12 : decode prog_1_method_1_code 12 = .ok (.putfield 12, 3) := wt_op181 wb52ctr_prog_1_method_1_code_c0 12 rfl rfl rfl
theorem wcd_ap_15 : decode prog_1_method_1_code 15 = .ok (.aload_n 0, 1) := wt_op42 wb52ctr_prog_1_method_1_code_c0 15 rfl rfl
theorem wcd_ap_16 : decode prog_1_method_1_code 16 = .ok (.new 16, 3) := wt_op187 wb52ctr_prog_1_method_1_code_c0 16 rfl rfl rfl
theorem wcd_ap_19 : decode prog_1_method_1_code 19 = .ok (.dup, 1) := wt_op89 wb52ctr_prog_1_method_1_code_c0 19 rfl rfl
theorem wcd_ap_20 : decode prog_1_method_1_code 20 = .ok (.invokespecial 18, 3) := wt_op183 wb52ctr_prog_1_method_1_code_c0 20 rfl rfl rfl
theorem wcd_ap_23 : decode prog_1_method_1_code 23 = .ok (.putfield 19, 3) := wt_op181 wb52ctr_prog_1_method_1_code_c0 23 rfl rfl rfl
theorem wcd_ap_26 : decode prog_1_method_1_code 26 = .ok (.aload_n 0, 1) := wt_op42 wb52ctr_prog_1_method_1_code_c0 26 rfl rfl
theorem wcd_ap_27 : decode prog_1_method_1_code 27 = .ok (.new 16, 3) := wt_op187 wb52ctr_prog_1_method_1_code_c0 27 rfl rfl rfl
theorem wcd_ap_30 : decode prog_1_method_1_code 30 = .ok (.dup, 1) := wt_op89 wb52ctr_prog_1_method_1_code_c1 0 rfl rfl
theorem wcd_ap_31 : decode prog_1_method_1_code 31 = .ok (.invokespecial 18, 3) := wt_op183 wb52ctr_prog_1_method_1_code_c1 1 rfl rfl rfl
theorem wcd_ap_34 : decode prog_1_method_1_code 34 = .ok (.putfield 23, 3) := wt_op181 wb52ctr_prog_1_method_1_code_c1 4 rfl rfl rfl
theorem wcd_ap_37 : decode prog_1_method_1_code 37 = .ok (.aload_n 0, 1) := wt_op42 wb52ctr_prog_1_method_1_code_c1 7 rfl rfl
theorem wcd_ap_38 : decode prog_1_method_1_code 38 = .ok (.new 26, 3) := wt_op187 wb52ctr_prog_1_method_1_code_c1 8 rfl rfl rfl
theorem wcd_ap_41 : decode prog_1_method_1_code 41 = .ok (.dup, 1) := wt_op89 wb52ctr_prog_1_method_1_code_c1 11 rfl rfl
theorem wcd_ap_42 : decode prog_1_method_1_code 42 = .ok (.invokespecial 28, 3) := wt_op183 wb52ctr_prog_1_method_1_code_c1 12 rfl rfl rfl
theorem wcd_ap_45 : decode prog_1_method_1_code 45 = .ok (.putfield 29, 3) := wt_op181 wb52ctr_prog_1_method_1_code_c1 15 rfl rfl rfl
theorem wcd_ap_48 : decode prog_1_method_1_code 48 = .ok (.aload_n 0, 1) := wt_op42 wb52ctr_prog_1_method_1_code_c1 18 rfl rfl
theorem wcd_ap_49 : decode prog_1_method_1_code 49 = .ok (.new 26, 3) := wt_op187 wb52ctr_prog_1_method_1_code_c1 19 rfl rfl rfl
theorem wcd_ap_52 : decode prog_1_method_1_code 52 = .ok (.dup, 1) := wt_op89 wb52ctr_prog_1_method_1_code_c1 22 rfl rfl
theorem wcd_ap_53 : decode prog_1_method_1_code 53 = .ok (.invokespecial 28, 3) := wt_op183 wb52ctr_prog_1_method_1_code_c1 23 rfl rfl rfl
theorem wcd_ap_56 : decode prog_1_method_1_code 56 = .ok (.putfield 33, 3) := wt_op181 wb52ctr_prog_1_method_1_code_c1 26 rfl rfl rfl
theorem wcd_ap_59 : decode prog_1_method_1_code 59 = .ok (.aload_n 0, 1) := wt_op42 wb52ctr_prog_1_method_1_code_c2 0 rfl rfl
theorem wcd_ap_60 : decode prog_1_method_1_code 60 = .ok (.new 36, 3) := wt_op187 wb52ctr_prog_1_method_1_code_c2 1 rfl rfl rfl
theorem wcd_ap_63 : decode prog_1_method_1_code 63 = .ok (.dup, 1) := wt_op89 wb52ctr_prog_1_method_1_code_c2 4 rfl rfl
theorem wcd_ap_64 : decode prog_1_method_1_code 64 = .ok (.invokespecial 38, 3) := wt_op183 wb52ctr_prog_1_method_1_code_c2 5 rfl rfl rfl
theorem wcd_ap_67 : decode prog_1_method_1_code 67 = .ok (.putfield 39, 3) := wt_op181 wb52ctr_prog_1_method_1_code_c2 8 rfl rfl rfl
theorem wcd_ap_70 : decode prog_1_method_1_code 70 = .ok (.aload_n 0, 1) := wt_op42 wb52ctr_prog_1_method_1_code_c2 11 rfl rfl
theorem wcd_ap_71 : decode prog_1_method_1_code 71 = .ok (.new 43, 3) := wt_op187 wb52ctr_prog_1_method_1_code_c2 12 rfl rfl rfl
theorem wcd_ap_74 : decode prog_1_method_1_code 74 = .ok (.dup, 1) := wt_op89 wb52ctr_prog_1_method_1_code_c2 15 rfl rfl
theorem wcd_ap_75 : decode prog_1_method_1_code 75 = .ok (.invokespecial 45, 3) := wt_op183 wb52ctr_prog_1_method_1_code_c2 16 rfl rfl rfl
theorem wcd_ap_78 : decode prog_1_method_1_code 78 = .ok (.putfield 46, 3) := wt_op181 wb52ctr_prog_1_method_1_code_c2 19 rfl rfl rfl
theorem wcd_ap_81 : decode prog_1_method_1_code 81 = .ok (.aload_n 0, 1) := wt_op42 wb52ctr_prog_1_method_1_code_c2 22 rfl rfl
theorem wcd_ap_82 : decode prog_1_method_1_code 82 = .ok (.iconst 3, 1) := wt_op6 wb52ctr_prog_1_method_1_code_c2 23 rfl rfl
theorem wcd_ap_83 : decode prog_1_method_1_code 83 = .ok (.anewarray 43, 3) := wt_op189 wb52ctr_prog_1_method_1_code_c2 24 rfl rfl rfl
theorem wcd_ap_86 : decode prog_1_method_1_code 86 = .ok (.putfield 50, 3) := wt_op181 wb52ctr_prog_1_method_1_code_c2 27 rfl rfl rfl
theorem wcd_ap_89 : decode prog_1_method_1_code 89 = .ok (.iconst 0, 1) := wt_op3 wb52ctr_prog_1_method_1_code_c3 0 rfl rfl
theorem wcd_ap_90 : decode prog_1_method_1_code 90 = .ok (.istore_n 1, 1) := wt_op60 wb52ctr_prog_1_method_1_code_c3 1 rfl rfl
theorem wcd_ap_91 : decode prog_1_method_1_code 91 = .ok (.iload_n 1, 1) := wt_op27 wb52ctr_prog_1_method_1_code_c3 2 rfl rfl
theorem wcd_ap_92 : decode prog_1_method_1_code 92 = .ok (.aload_n 0, 1) := wt_op42 wb52ctr_prog_1_method_1_code_c3 3 rfl rfl
theorem wcd_ap_93 : decode prog_1_method_1_code 93 = .ok (.getfield 50, 3) := wt_op180 wb52ctr_prog_1_method_1_code_c3 4 rfl rfl rfl
theorem wcd_ap_96 : decode prog_1_method_1_code 96 = .ok (.arraylength, 1) := wt_op190 wb52ctr_prog_1_method_1_code_c3 7 rfl rfl
theorem wcd_ap_97 : decode prog_1_method_1_code 97 = .ok (.if_icmp .ge 22, 3) := wt_op162 wb52ctr_prog_1_method_1_code_c3 8 rfl rfl rfl
theorem wcd_ap_100 : decode prog_1_method_1_code 100 = .ok (.aload_n 0, 1) := wt_op42 wb52ctr_prog_1_method_1_code_c3 11 rfl rfl
theorem wcd_ap_101 : decode prog_1_method_1_code 101 = .ok (.getfield 50, 3) := wt_op180 wb52ctr_prog_1_method_1_code_c3 12 rfl rfl rfl
theorem wcd_ap_104 : decode prog_1_method_1_code 104 = .ok (.iload_n 1, 1) := wt_op27 wb52ctr_prog_1_method_1_code_c3 15 rfl rfl
theorem wcd_ap_105 : decode prog_1_method_1_code 105 = .ok (.new 43, 3) := wt_op187 wb52ctr_prog_1_method_1_code_c3 16 rfl rfl rfl
theorem wcd_ap_108 : decode prog_1_method_1_code 108 = .ok (.dup, 1) := wt_op89 wb52ctr_prog_1_method_1_code_c3 19 rfl rfl
theorem wcd_ap_109 : decode prog_1_method_1_code 109 = .ok (.invokespecial 45, 3) := wt_op183 wb52ctr_prog_1_method_1_code_c3 20 rfl rfl rfl
theorem wcd_ap_112 : decode prog_1_method_1_code 112 = .ok (.aastore, 1) := wt_op83 wb52ctr_prog_1_method_1_code_c3 23 rfl rfl
theorem wcd_ap_113 : decode prog_1_method_1_code 113 = .ok (.iinc 1 1, 3) := wt_op132 wb52ctr_prog_1_method_1_code_c3 24 rfl rfl rfl
theorem wcd_ap_116 : decode prog_1_method_1_code 116 = .ok (.goto (-25), 3) := wt_op167 wb52ctr_prog_1_method_1_code_c3 27 rfl rfl rfl
theorem wcd_ap_119 : decode prog_1_method_1_code 119 = .ok (.aload_n 0, 1) := wt_op42 wb52ctr_prog_1_method_1_code_c4 0 rfl rfl
theorem wcd_ap_120 : decode prog_1_method_1_code 120 = .ok (.new 54, 3) := wt_op187 wb52ctr_prog_1_method_1_code_c4 1 rfl rfl rfl
theorem wcd_ap_123 : decode prog_1_method_1_code 123 = .ok (.dup, 1) := wt_op89 wb52ctr_prog_1_method_1_code_c4 4 rfl rfl
theorem wcd_ap_124 : decode prog_1_method_1_code 124 = .ok (.aload_n 0, 1) := wt_op42 wb52ctr_prog_1_method_1_code_c4 5 rfl rfl
theorem wcd_ap_125 : decode prog_1_method_1_code 125 = .ok (.getfield 19, 3) := wt_op180 wb52ctr_prog_1_method_1_code_c4 6 rfl rfl rfl
theorem wcd_ap_128 : decode prog_1_method_1_code 128 = .ok (.aload_n 0, 1) := wt_op42 wb52ctr_prog_1_method_1_code_c4 9 rfl rfl
theorem wcd_ap_129 : decode prog_1_method_1_code 129 = .ok (.getfield 46, 3) := wt_op180 wb52ctr_prog_1_method_1_code_c4 10 rfl rfl rfl
theorem wcd_ap_132 : decode prog_1_method_1_code 132 = .ok (.invokespecial 56, 3) := wt_op183 wb52ctr_prog_1_method_1_code_c4 13 rfl rfl rfl
theorem wcd_ap_135 : decode prog_1_method_1_code 135 = .ok (.putfield 59, 3) := wt_op181 wb52ctr_prog_1_method_1_code_c4 16 rfl rfl rfl
theorem wcd_ap_138 : decode prog_1_method_1_code 138 = .ok (.aload_n 0, 1) := wt_op42 wb52ctr_prog_1_method_1_code_c4 19 rfl rfl
theorem wcd_ap_139 : decode prog_1_method_1_code 139 = .ok (.new 63, 3) := wt_op187 wb52ctr_prog_1_method_1_code_c4 20 rfl rfl rfl
theorem wcd_ap_142 : decode prog_1_method_1_code 142 = .ok (.dup, 1) := wt_op89 wb52ctr_prog_1_method_1_code_c4 23 rfl rfl
theorem wcd_ap_143 : decode prog_1_method_1_code 143 = .ok (.aload_n 0, 1) := wt_op42 wb52ctr_prog_1_method_1_code_c4 24 rfl rfl
theorem wcd_ap_144 : decode prog_1_method_1_code 144 = .ok (.getfield 19, 3) := wt_op180 wb52ctr_prog_1_method_1_code_c4 25 rfl rfl rfl
theorem wcd_ap_147 : decode prog_1_method_1_code 147 = .ok (.aload_n 0, 1) := wt_op42 wb52ctr_prog_1_method_1_code_c5 0 rfl rfl
theorem wcd_ap_148 : decode prog_1_method_1_code 148 = .ok (.getfield 29, 3) := wt_op180 wb52ctr_prog_1_method_1_code_c5 1 rfl rfl rfl
theorem wcd_ap_151 : decode prog_1_method_1_code 151 = .ok (.aload_n 0, 1) := wt_op42 wb52ctr_prog_1_method_1_code_c5 4 rfl rfl
theorem wcd_ap_152 : decode prog_1_method_1_code 152 = .ok (.getfield 39, 3) := wt_op180 wb52ctr_prog_1_method_1_code_c5 5 rfl rfl rfl
theorem wcd_ap_155 : decode prog_1_method_1_code 155 = .ok (.aload_n 0, 1) := wt_op42 wb52ctr_prog_1_method_1_code_c5 8 rfl rfl
theorem wcd_ap_156 : decode prog_1_method_1_code 156 = .ok (.getfield 46, 3) := wt_op180 wb52ctr_prog_1_method_1_code_c5 9 rfl rfl rfl
theorem wcd_ap_159 : decode prog_1_method_1_code 159 = .ok (.aload_n 0, 1) := wt_op42 wb52ctr_prog_1_method_1_code_c5 12 rfl rfl
theorem wcd_ap_160 : decode prog_1_method_1_code 160 = .ok (.getfield 59, 3) := wt_op180 wb52ctr_prog_1_method_1_code_c5 13 rfl rfl rfl
theorem wcd_ap_163 : decode prog_1_method_1_code 163 = .ok (.invokespecial 65, 3) := wt_op183 wb52ctr_prog_1_method_1_code_c5 16 rfl rfl rfl
theorem wcd_ap_166 : decode prog_1_method_1_code 166 = .ok (.putfield 68, 3) := wt_op181 wb52ctr_prog_1_method_1_code_c5 19 rfl rfl rfl
theorem wcd_ap_169 : decode prog_1_method_1_code 169 = .ok (.aload_n 0, 1) := wt_op42 wb52ctr_prog_1_method_1_code_c5 22 rfl rfl
theorem wcd_ap_170 : decode prog_1_method_1_code 170 = .ok (.new 72, 3) := wt_op187 wb52ctr_prog_1_method_1_code_c5 23 rfl rfl rfl
theorem wcd_ap_173 : decode prog_1_method_1_code 173 = .ok (.dup, 1) := wt_op89 wb52ctr_prog_1_method_1_code_c5 26 rfl rfl
theorem wcd_ap_174 : decode prog_1_method_1_code 174 = .ok (.aload_n 0, 1) := wt_op42 wb52ctr_prog_1_method_1_code_c5 27 rfl rfl
theorem wcd_ap_175 : decode prog_1_method_1_code 175 = .ok (.getfield 19, 3) := wt_op180 wb52ctr_prog_1_method_1_code_c6 0 rfl rfl rfl
theorem wcd_ap_178 : decode prog_1_method_1_code 178 = .ok (.aload_n 0, 1) := wt_op42 wb52ctr_prog_1_method_1_code_c6 3 rfl rfl
theorem wcd_ap_179 : decode prog_1_method_1_code 179 = .ok (.getfield 29, 3) := wt_op180 wb52ctr_prog_1_method_1_code_c6 4 rfl rfl rfl
theorem wcd_ap_182 : decode prog_1_method_1_code 182 = .ok (.aload_n 0, 1) := wt_op42 wb52ctr_prog_1_method_1_code_c6 7 rfl rfl
theorem wcd_ap_183 : decode prog_1_method_1_code 183 = .ok (.getfield 39, 3) := wt_op180 wb52ctr_prog_1_method_1_code_c6 8 rfl rfl rfl
theorem wcd_ap_186 : decode prog_1_method_1_code 186 = .ok (.aload_n 0, 1) := wt_op42 wb52ctr_prog_1_method_1_code_c6 11 rfl rfl
theorem wcd_ap_187 : decode prog_1_method_1_code 187 = .ok (.getfield 46, 3) := wt_op180 wb52ctr_prog_1_method_1_code_c6 12 rfl rfl rfl
theorem wcd_ap_190 : decode prog_1_method_1_code 190 = .ok (.aload_n 0, 1) := wt_op42 wb52ctr_prog_1_method_1_code_c6 15 rfl rfl
theorem wcd_ap_191 : decode prog_1_method_1_code 191 = .ok (.getfield 59, 3) := wt_op180 wb52ctr_prog_1_method_1_code_c6 16 rfl rfl rfl
theorem wcd_ap_194 : decode prog_1_method_1_code 194 = .ok (.invokespecial 74, 3) := wt_op183 wb52ctr_prog_1_method_1_code_c6 19 rfl rfl rfl
theorem wcd_ap_197 : decode prog_1_method_1_code 197 = .ok (.putfield 75, 3) := wt_op181 wb52ctr_prog_1_method_1_code_c6 22 rfl rfl rfl
theorem wcd_ap_200 : decode prog_1_method_1_code 200 = .ok (.aload_n 0, 1) := wt_op42 wb52ctr_prog_1_method_1_code_c6 25 rfl rfl
theorem wcd_ap_201 : decode prog_1_method_1_code 201 = .ok (.new 79, 3) := wt_op187 wb52ctr_prog_1_method_1_code_c6 26 rfl rfl rfl
theorem wcd_ap_204 : decode prog_1_method_1_code 204 = .ok (.dup, 1) := wt_op89 wb52ctr_prog_1_method_1_code_c7 0 rfl rfl
theorem wcd_ap_205 : decode prog_1_method_1_code 205 = .ok (.aload_n 0, 1) := wt_op42 wb52ctr_prog_1_method_1_code_c7 1 rfl rfl
theorem wcd_ap_206 : decode prog_1_method_1_code 206 = .ok (.getfield 29, 3) := wt_op180 wb52ctr_prog_1_method_1_code_c7 2 rfl rfl rfl
theorem wcd_ap_209 : decode prog_1_method_1_code 209 = .ok (.aload_n 0, 1) := wt_op42 wb52ctr_prog_1_method_1_code_c7 5 rfl rfl
theorem wcd_ap_210 : decode prog_1_method_1_code 210 = .ok (.getfield 39, 3) := wt_op180 wb52ctr_prog_1_method_1_code_c7 6 rfl rfl rfl
theorem wcd_ap_213 : decode prog_1_method_1_code 213 = .ok (.aload_n 0, 1) := wt_op42 wb52ctr_prog_1_method_1_code_c7 9 rfl rfl
theorem wcd_ap_214 : decode prog_1_method_1_code 214 = .ok (.getfield 46, 3) := wt_op180 wb52ctr_prog_1_method_1_code_c7 10 rfl rfl rfl
theorem wcd_ap_217 : decode prog_1_method_1_code 217 = .ok (.aload_n 0, 1) := wt_op42 wb52ctr_prog_1_method_1_code_c7 13 rfl rfl
theorem wcd_ap_218 : decode prog_1_method_1_code 218 = .ok (.getfield 59, 3) := wt_op180 wb52ctr_prog_1_method_1_code_c7 14 rfl rfl rfl
theorem wcd_ap_221 : decode prog_1_method_1_code 221 = .ok (.invokespecial 81, 3) := wt_op183 wb52ctr_prog_1_method_1_code_c7 17 rfl rfl rfl
theorem wcd_ap_224 : decode prog_1_method_1_code 224 = .ok (.putfield 84, 3) := wt_op181 wb52ctr_prog_1_method_1_code_c7 20 rfl rfl rfl
theorem wcd_ap_227 : decode prog_1_method_1_code 227 = .ok (.aload_n 0, 1) := wt_op42 wb52ctr_prog_1_method_1_code_c7 23 rfl rfl
theorem wcd_ap_228 : decode prog_1_method_1_code 228 = .ok (.new 88, 3) := wt_op187 wb52ctr_prog_1_method_1_code_c7 24 rfl rfl rfl
theorem wcd_ap_231 : decode prog_1_method_1_code 231 = .ok (.dup, 1) := wt_op89 wb52ctr_prog_1_method_1_code_c7 27 rfl rfl
theorem wcd_ap_232 : decode prog_1_method_1_code 232 = .ok (.aload_n 0, 1) := wt_op42 wb52ctr_prog_1_method_1_code_c8 0 rfl rfl
theorem wcd_ap_233 : decode prog_1_method_1_code 233 = .ok (.getfield 19, 3) := wt_op180 wb52ctr_prog_1_method_1_code_c8 1 rfl rfl rfl
theorem wcd_ap_236 : decode prog_1_method_1_code 236 = .ok (.aload_n 0, 1) := wt_op42 wb52ctr_prog_1_method_1_code_c8 4 rfl rfl
theorem wcd_ap_237 : decode prog_1_method_1_code 237 = .ok (.getfield 39, 3) := wt_op180 wb52ctr_prog_1_method_1_code_c8 5 rfl rfl rfl
theorem wcd_ap_240 : decode prog_1_method_1_code 240 = .ok (.aload_n 0, 1) := wt_op42 wb52ctr_prog_1_method_1_code_c8 8 rfl rfl
theorem wcd_ap_241 : decode prog_1_method_1_code 241 = .ok (.getfield 46, 3) := wt_op180 wb52ctr_prog_1_method_1_code_c8 9 rfl rfl rfl
theorem wcd_ap_244 : decode prog_1_method_1_code 244 = .ok (.aload_n 0, 1) := wt_op42 wb52ctr_prog_1_method_1_code_c8 12 rfl rfl
theorem wcd_ap_245 : decode prog_1_method_1_code 245 = .ok (.getfield 59, 3) := wt_op180 wb52ctr_prog_1_method_1_code_c8 13 rfl rfl rfl
theorem wcd_ap_248 : decode prog_1_method_1_code 248 = .ok (.invokespecial 90, 3) := wt_op183 wb52ctr_prog_1_method_1_code_c8 16 rfl rfl rfl
theorem wcd_ap_251 : decode prog_1_method_1_code 251 = .ok (.putfield 93, 3) := wt_op181 wb52ctr_prog_1_method_1_code_c8 19 rfl rfl rfl
theorem wcd_ap_254 : decode prog_1_method_1_code 254 = .ok (.aload_n 0, 1) := wt_op42 wb52ctr_prog_1_method_1_code_c8 22 rfl rfl
theorem wcd_ap_255 : decode prog_1_method_1_code 255 = .ok (.bipush 26, 2) := wt_op16 wb52ctr_prog_1_method_1_code_c8 23 rfl rfl rfl
theorem wcd_ap_257 : decode prog_1_method_1_code 257 = .ok (.newarray .int, 2) := wt_op188 wb52ctr_prog_1_method_1_code_c8 25 rfl rfl
theorem wcd_ap_259 : decode prog_1_method_1_code 259 = .ok (.putfield 97, 3) := wt_op181 wb52ctr_prog_1_method_1_code_c8 27 rfl rfl rfl
theorem wcd_ap_262 : decode prog_1_method_1_code 262 = .ok (.aload_n 0, 1) := wt_op42 wb52ctr_prog_1_method_1_code_c9 0 rfl rfl
theorem wcd_ap_263 : decode prog_1_method_1_code 263 = .ok (.iconst 0, 1) := wt_op3 wb52ctr_prog_1_method_1_code_c9 1 rfl rfl
theorem wcd_ap_264 : decode prog_1_method_1_code 264 = .ok (.putfield 101, 3) := wt_op181 wb52ctr_prog_1_method_1_code_c9 2 rfl rfl rfl
theorem wcd_ap_267 : decode prog_1_method_1_code 267 = .ok (.return_, 1) := wt_op177 wb52ctr_prog_1_method_1_code_c9 5 rfl rfl
set_option maxRecDepth 100000 in
set_option maxHeartbeats 4000000 in
theorem wc_ap_0_z {n : Nat} {σ : wt_St} {σ1 : wt_St} {σ2 : wt_St} {σ3 : wt_St} {σ4 : wt_St} {σ5 : wt_St} {σ6 : wt_St} (hz0 : wt_zero σ 1) (hc_0 : wp_ld_clear n 4 (wt_sf σ 1 7 (-1 : Int32)) = some σ1) (hf_1 : ∀ i, ¬ (4 ≤ i ∧ i < 12) → (∀ q, wt_gf σ1 i q = wt_gf (wt_sf σ 1 7 (-1 : Int32)) i q) ∧ ∀ q, wt_ga σ1 i q = wt_ga (wt_sf σ 1 7 (-1 : Int32)) i q) (hc_2 : wp_ld_clear n 12 σ1 = some σ2) (hf_3 : ∀ i, ¬ (12 ≤ i ∧ i < 20) → (∀ q, wt_gf σ2 i q = wt_gf σ1 i q) ∧ ∀ q, wt_ga σ2 i q = wt_ga σ1 i q) (hc_4 : wp_st_clearPages n 39 σ2 = some σ3) (hf_5 : ∀ i, ¬ (39 ≤ i ∧ i < 48) → (∀ q, wt_gf σ3 i q = wt_gf σ2 i q) ∧ ∀ q, wt_ga σ3 i q = wt_ga σ2 i q) (hc_6 : wp_st_clearPages n 49 σ3 = some σ4) (hf_7 : ∀ i, ¬ (49 ≤ i ∧ i < 58) → (∀ q, wt_gf σ4 i q = wt_gf σ3 i q) ∧ ∀ q, wt_ga σ4 i q = wt_ga σ3 i q) (hc_8 : wp_st_clearPages n 58 σ4 = some σ5) (hf_9 : ∀ i, ¬ (58 ≤ i ∧ i < 67) → (∀ q, wt_gf σ5 i q = wt_gf σ4 i q) ∧ ∀ q, wt_ga σ5 i q = wt_ga σ4 i q) (hc_10 : wp_st_clearPages n 67 σ5 = some σ6) (hf_11 : ∀ i, ¬ (67 ≤ i ∧ i < 76) → (∀ q, wt_gf σ6 i q = wt_gf σ5 i q) ∧ ∀ q, wt_ga σ6 i q = wt_ga σ5 i q) : wt_zero (wt_sf (wt_sf σ6 81 9 (-1 : Int32)) 0 14 (0 : Int32)) 108 := by
  have hz1 : wt_zero (wt_sf σ 1 7 (-1 : Int32)) 4 := wc_tp_1_z (hz0.mono (by decide))
  have hz2 : wt_zero σ1 12 := wc_ld_4_z (hz1.mono (by decide)) hc_0 hf_1
  have hz3 : wt_zero σ2 20 := wc_ld_12_z (hz2.mono (by decide)) hc_2 hf_3
  have hz4 : wt_zero σ2 27 := wc_tg_20_z (hz3.mono (by decide))
  have hz5 : wt_zero σ2 34 := wc_tg_27_z (hz4.mono (by decide))
  have hz6 : wt_zero σ2 39 := wc_tx_34_z (hz5.mono (by decide))
  have hz7 : wt_zero σ3 48 := wc_st_39_z (hz6.mono (by decide)) hc_4 hf_5
  have hz8 : wt_zero σ4 58 := wc_st_49_z (hz7.mono (by decide)) hc_6 hf_7
  have hz9 : wt_zero σ5 67 := wc_st_58_z (hz8.mono (by decide)) hc_8 hf_9
  have hz10 : wt_zero σ6 76 := wc_st_67_z (hz9.mono (by decide)) hc_10 hf_11
  have hz11 : wt_zero σ6 77 := wc_sk_76_z (hz10.mono (by decide))
  have hz12 : wt_zero σ6 81 := wc_pg_77_z (hz11.mono (by decide))
  have hz13 : wt_zero (wt_sf σ6 81 9 (-1 : Int32)) 86 := wc_rw_81_z (hz12.mono (by decide))
  have hz14 : wt_zero (wt_sf σ6 81 9 (-1 : Int32)) 101 := wc_wk_86_z (hz13.mono (by decide))
  have hz15 : wt_zero (wt_sf σ6 81 9 (-1 : Int32)) 107 := wc_tr_101_z (hz14.mono (by decide))
  have hz16 : wt_zero (wt_sf (wt_sf σ6 81 9 (-1 : Int32)) 0 14 (0 : Int32)) 108 := (hz15.mono (by decide)).sf (by decide)
  exact hz16.mono (by decide)
set_option maxRecDepth 100000 in
set_option maxHeartbeats 40000000 in
theorem wc_ap_0 {l : Launch} {w : wt_E} {n : Nat} {σ : wt_St} {σ1 : wt_St} {σ2 : wt_St} {σ3 : wt_St} {σ4 : wt_St} {σ5 : wt_St} {σ6 : wt_St} (hdm : ∀ i, wt_dom w i ↔ i < 1) (hz0 : wt_zero σ 1) (hc_0 : wp_ld_clear n 4 (wt_sf σ 1 7 (-1 : Int32)) = some σ1) (hf_1 : ∀ i, ¬ (4 ≤ i ∧ i < 12) → (∀ q, wt_gf σ1 i q = wt_gf (wt_sf σ 1 7 (-1 : Int32)) i q) ∧ ∀ q, wt_ga σ1 i q = wt_ga (wt_sf σ 1 7 (-1 : Int32)) i q) (hc_2 : wp_ld_clear n 12 σ1 = some σ2) (hf_3 : ∀ i, ¬ (12 ≤ i ∧ i < 20) → (∀ q, wt_gf σ2 i q = wt_gf σ1 i q) ∧ ∀ q, wt_ga σ2 i q = wt_ga σ1 i q) (hc_4 : wp_st_clearPages n 39 σ2 = some σ3) (hf_5 : ∀ i, ¬ (39 ≤ i ∧ i < 48) → (∀ q, wt_gf σ3 i q = wt_gf σ2 i q) ∧ ∀ q, wt_ga σ3 i q = wt_ga σ2 i q) (hc_6 : wp_st_clearPages n 49 σ3 = some σ4) (hf_7 : ∀ i, ¬ (49 ≤ i ∧ i < 58) → (∀ q, wt_gf σ4 i q = wt_gf σ3 i q) ∧ ∀ q, wt_ga σ4 i q = wt_ga σ3 i q) (hc_8 : wp_st_clearPages n 58 σ4 = some σ5) (hf_9 : ∀ i, ¬ (58 ≤ i ∧ i < 67) → (∀ q, wt_gf σ5 i q = wt_gf σ4 i q) ∧ ∀ q, wt_ga σ5 i q = wt_ga σ4 i q) (hc_10 : wp_st_clearPages n 67 σ5 = some σ6) (hf_11 : ∀ i, ¬ (67 ≤ i ∧ i < 76) → (∀ q, wt_gf σ6 i q = wt_gf σ5 i q) ∧ ∀ q, wt_ga σ6 i q = wt_ga σ5 i q) : wt_CtrB wt_SA l w wt_y_ap_init prog_1_method_1_code 2 3 745 [.inr 0] 1 108 [] [] σ (wt_sf (wt_sf σ6 81 9 (-1 : Int32)) 0 14 (0 : Int32)) := by
  have hz1 : wt_zero (wt_sf σ 1 7 (-1 : Int32)) 4 := wc_tp_1_z (hz0.mono (by decide))
  have hz2 : wt_zero σ1 12 := wc_ld_4_z (hz1.mono (by decide)) hc_0 hf_1
  have hz3 : wt_zero σ2 20 := wc_ld_12_z (hz2.mono (by decide)) hc_2 hf_3
  have hz4 : wt_zero σ2 27 := wc_tg_20_z (hz3.mono (by decide))
  have hz5 : wt_zero σ2 34 := wc_tg_27_z (hz4.mono (by decide))
  have hz6 : wt_zero σ2 39 := wc_tx_34_z (hz5.mono (by decide))
  have hz7 : wt_zero σ3 48 := wc_st_39_z (hz6.mono (by decide)) hc_4 hf_5
  have hz8 : wt_zero σ4 58 := wc_st_49_z (hz7.mono (by decide)) hc_6 hf_7
  have hz9 : wt_zero σ5 67 := wc_st_58_z (hz8.mono (by decide)) hc_8 hf_9
  have hz10 : wt_zero σ6 76 := wc_st_67_z (hz9.mono (by decide)) hc_10 hf_11
  have hz11 : wt_zero σ6 77 := wc_sk_76_z (hz10.mono (by decide))
  have hz12 : wt_zero σ6 81 := wc_pg_77_z (hz11.mono (by decide))
  have hz13 : wt_zero (wt_sf σ6 81 9 (-1 : Int32)) 86 := wc_rw_81_z (hz12.mono (by decide))
  have hz14 : wt_zero (wt_sf σ6 81 9 (-1 : Int32)) 101 := wc_wk_86_z (hz13.mono (by decide))
  have hz15 : wt_zero (wt_sf σ6 81 9 (-1 : Int32)) 107 := wc_tr_101_z (hz14.mono (by decide))
  have hz16 : wt_zero (wt_sf (wt_sf σ6 81 9 (-1 : Int32)) 0 14 (0 : Int32)) 108 := (hz15.mono (by decide)).sf (by decide)
  refine wt_ctrB hdm hz0 wt_pl_ap_init rfl (Nat.le_of_ble_eq_true rfl) [some (.inr 0), none] rfl ?_
  intro X hXl hXw hE hR hSA
  subst hXl
  subst hXw
  have hE : wt_Ok X prog_1_method_1_code 2 "WornType" 3 745 := hE
  refine wt_bn_aload_n hE wcd_ap_0 rfl ?_
  refine wt_bn_obj hE (wt_g1 30 rfl rfl) (wt_g1 31 rfl rfl) (wt_g1 32 rfl rfl) (by omega) (by decide) wcd_ap_1 ?_
  refine wt_bn_aload_n hE wcd_ap_4 rfl ?_
  refine wt_bn_new hE [(0, 0)] wt_cf5 rfl (wt_g1 33 rfl rfl) (wt_g1 34 rfl rfl) (wt_g1 2 rfl rfl) (by decide) wt_L1 (by decide +kernel) (by decide +kernel) rfl rfl (Nat.le_of_ble_eq_true rfl) (Nat.le_of_ble_eq_true rfl) wcd_ap_5 ?_
  refine wt_bn_dup hE wcd_ap_8 ?_
  refine wt_bn_callI (dd := 1) (k2 := 32) hE wt_SA_fx hSA rfl (wt_g1 35 rfl rfl) (wt_g1 36 rfl rfl) (wt_g1 2 rfl rfl) wt_ya_tp_init (fun ad => wc_tp_1 (w := wt_at (wt_xw X) ad (fun i => i < 2)) (fun _ => Iff.rfl) (hz0.mono (by decide))) (by omega) rfl rfl (by decide) (Nat.le_of_ble_eq_true rfl) (Nat.le_of_ble_eq_true rfl) (by decide) hz1 rfl rfl wcd_ap_9 ?_
  refine wt_bn_putr (kf := 0) hE [] hR.2.1 wt_cf10 rfl (Nat.le_of_ble_eq_true rfl) rfl rfl (wt_g2 165 rfl rfl) (fun _ => rfl) (fun _ => rfl) wt_L0 rfl (Nat.le_of_ble_eq_true rfl) (Nat.le_of_ble_eq_true rfl) (by decide +kernel) wcd_ap_12 ?_
  refine wt_bn_aload_n hE wcd_ap_15 rfl ?_
  refine wt_bn_new hE [(0, 1)] wt_cf0 rfl (wt_g1 70 rfl rfl) (wt_g1 71 rfl rfl) (wt_g1 3 rfl rfl) (by decide) wt_L4 (by decide +kernel) (by decide +kernel) rfl rfl (Nat.le_of_ble_eq_true rfl) (Nat.le_of_ble_eq_true rfl) wcd_ap_16 ?_
  refine wt_bn_dup hE wcd_ap_19 ?_
  refine wt_bn_callI (dd := 2) (k2 := 46) hE wt_SA_fx hSA rfl (wt_g1 72 rfl rfl) (wt_g1 73 rfl rfl) (wt_g1 3 rfl rfl) wt_ya_ld_init (fun ad => wc_ld_4 (w := wt_at (wt_xw X) ad (fun i => i < 5)) (fun _ => Iff.rfl) (hz1.mono (by decide)) hc_0 hf_1) (by omega) rfl rfl (by decide) (Nat.le_of_ble_eq_true rfl) (Nat.le_of_ble_eq_true rfl) (by decide) hz2 rfl rfl wcd_ap_20 ?_
  refine wt_bn_putr (kf := 1) hE [] hR.2.1 wt_cf10 rfl (Nat.le_of_ble_eq_true rfl) rfl rfl (wt_g2 166 rfl rfl) (fun _ => rfl) (fun _ => rfl) wt_L0 rfl (Nat.le_of_ble_eq_true rfl) (Nat.le_of_ble_eq_true rfl) (by decide +kernel) wcd_ap_23 ?_
  refine wt_bn_aload_n hE wcd_ap_26 rfl ?_
  refine wt_bn_new hE [(0, 2)] wt_cf0 rfl (wt_g1 70 rfl rfl) (wt_g1 71 rfl rfl) (wt_g1 3 rfl rfl) (by decide) wt_L12 (by decide +kernel) (by decide +kernel) rfl rfl (Nat.le_of_ble_eq_true rfl) (Nat.le_of_ble_eq_true rfl) wcd_ap_27 ?_
  refine wt_bn_dup hE wcd_ap_30 ?_
  refine wt_bn_callI (dd := 2) (k2 := 46) hE wt_SA_fx hSA rfl (wt_g1 72 rfl rfl) (wt_g1 73 rfl rfl) (wt_g1 3 rfl rfl) wt_ya_ld_init (fun ad => wc_ld_12 (w := wt_at (wt_xw X) ad (fun i => i < 13)) (fun _ => Iff.rfl) (hz2.mono (by decide)) hc_2 hf_3) (by omega) rfl rfl (by decide) (Nat.le_of_ble_eq_true rfl) (Nat.le_of_ble_eq_true rfl) (by decide) hz3 rfl rfl wcd_ap_31 ?_
  refine wt_bn_putr (kf := 2) hE [] hR.2.1 wt_cf10 rfl (Nat.le_of_ble_eq_true rfl) rfl rfl (wt_g2 167 rfl rfl) (fun _ => rfl) (fun _ => rfl) wt_L0 rfl (Nat.le_of_ble_eq_true rfl) (Nat.le_of_ble_eq_true rfl) (by decide +kernel) wcd_ap_34 ?_
  refine wt_bn_aload_n hE wcd_ap_37 rfl ?_
  refine wt_bn_new hE [(0, 3)] wt_cf7 rfl (wt_g1 118 rfl rfl) (wt_g1 119 rfl rfl) (wt_g1 4 rfl rfl) (by decide) wt_L20 (by decide +kernel) (by decide +kernel) rfl rfl (Nat.le_of_ble_eq_true rfl) (Nat.le_of_ble_eq_true rfl) wcd_ap_38 ?_
  refine wt_bn_dup hE wcd_ap_41 ?_
  refine wt_bn_callI (dd := 1) (k2 := 48) hE wt_SA_fx hSA rfl (wt_g1 120 rfl rfl) (wt_g1 121 rfl rfl) (wt_g1 4 rfl rfl) wt_ya_tg_init (fun ad => wc_tg_20 (w := wt_at (wt_xw X) ad (fun i => i < 21)) (fun _ => Iff.rfl) (hz3.mono (by decide))) (by omega) rfl rfl (by decide) (Nat.le_of_ble_eq_true rfl) (Nat.le_of_ble_eq_true rfl) (by decide) hz4 rfl rfl wcd_ap_42 ?_
  refine wt_bn_putr (kf := 3) hE [] hR.2.1 wt_cf10 rfl (Nat.le_of_ble_eq_true rfl) rfl rfl (wt_g2 168 rfl rfl) (fun _ => rfl) (fun _ => rfl) wt_L0 rfl (Nat.le_of_ble_eq_true rfl) (Nat.le_of_ble_eq_true rfl) (by decide +kernel) wcd_ap_45 ?_
  refine wt_bn_aload_n hE wcd_ap_48 rfl ?_
  refine wt_bn_new hE [(0, 4)] wt_cf7 rfl (wt_g1 118 rfl rfl) (wt_g1 119 rfl rfl) (wt_g1 4 rfl rfl) (by decide) wt_L27 (by decide +kernel) (by decide +kernel) rfl rfl (Nat.le_of_ble_eq_true rfl) (Nat.le_of_ble_eq_true rfl) wcd_ap_49 ?_
  refine wt_bn_dup hE wcd_ap_52 ?_
  refine wt_bn_callI (dd := 1) (k2 := 48) hE wt_SA_fx hSA rfl (wt_g1 120 rfl rfl) (wt_g1 121 rfl rfl) (wt_g1 4 rfl rfl) wt_ya_tg_init (fun ad => wc_tg_27 (w := wt_at (wt_xw X) ad (fun i => i < 28)) (fun _ => Iff.rfl) (hz4.mono (by decide))) (by omega) rfl rfl (by decide) (Nat.le_of_ble_eq_true rfl) (Nat.le_of_ble_eq_true rfl) (by decide) hz5 rfl rfl wcd_ap_53 ?_
  refine wt_bn_putr (kf := 4) hE [] hR.2.1 wt_cf10 rfl (Nat.le_of_ble_eq_true rfl) rfl rfl (wt_g2 169 rfl rfl) (fun _ => rfl) (fun _ => rfl) wt_L0 rfl (Nat.le_of_ble_eq_true rfl) (Nat.le_of_ble_eq_true rfl) (by decide +kernel) wcd_ap_56 ?_
  refine wt_bn_aload_n hE wcd_ap_59 rfl ?_
  refine wt_bn_new hE [(0, 5)] wt_cf6 rfl (wt_g1 158 rfl rfl) (wt_g1 159 rfl rfl) (wt_g1 5 rfl rfl) (by decide) wt_L34 (by decide +kernel) (by decide +kernel) rfl rfl (Nat.le_of_ble_eq_true rfl) (Nat.le_of_ble_eq_true rfl) wcd_ap_60 ?_
  refine wt_bn_dup hE wcd_ap_63 ?_
  refine wt_bn_callI (dd := 1) (k2 := 22) hE wt_SA_fx hSA rfl (wt_g1 160 rfl rfl) (wt_g1 161 rfl rfl) (wt_g1 5 rfl rfl) wt_ya_tx_init (fun ad => wc_tx_34 (w := wt_at (wt_xw X) ad (fun i => i < 35)) (fun _ => Iff.rfl) (hz5.mono (by decide))) (by omega) rfl rfl (by decide) (Nat.le_of_ble_eq_true rfl) (Nat.le_of_ble_eq_true rfl) (by decide) hz6 rfl rfl wcd_ap_64 ?_
  refine wt_bn_putr (kf := 5) hE [] hR.2.1 wt_cf10 rfl (Nat.le_of_ble_eq_true rfl) rfl rfl (wt_g2 170 rfl rfl) (fun _ => rfl) (fun _ => rfl) wt_L0 rfl (Nat.le_of_ble_eq_true rfl) (Nat.le_of_ble_eq_true rfl) (by decide +kernel) wcd_ap_67 ?_
  refine wt_bn_aload_n hE wcd_ap_70 rfl ?_
  refine wt_bn_new hE [(0, 6)] wt_cf3 rfl (wt_g1 182 rfl rfl) (wt_g1 183 rfl rfl) (wt_g1 6 rfl rfl) (by decide) wt_L39 (by decide +kernel) (by decide +kernel) rfl rfl (Nat.le_of_ble_eq_true rfl) (Nat.le_of_ble_eq_true rfl) wcd_ap_71 ?_
  refine wt_bn_dup hE wcd_ap_74 ?_
  refine wt_bn_callI (dd := 2) (k2 := 62) hE wt_SA_fx hSA rfl (wt_g1 184 rfl rfl) (wt_g1 185 rfl rfl) (wt_g1 6 rfl rfl) wt_ya_st_init (fun ad => wc_st_39 (w := wt_at (wt_xw X) ad (fun i => i < 40)) (fun _ => Iff.rfl) (hz6.mono (by decide)) hc_4 hf_5) (by omega) rfl rfl (by decide) (Nat.le_of_ble_eq_true rfl) (Nat.le_of_ble_eq_true rfl) (by decide) hz7 rfl rfl wcd_ap_75 ?_
  refine wt_bn_putr (kf := 6) hE [] hR.2.1 wt_cf10 rfl (Nat.le_of_ble_eq_true rfl) rfl rfl (wt_g2 171 rfl rfl) (fun _ => rfl) (fun _ => rfl) wt_L0 rfl (Nat.le_of_ble_eq_true rfl) (Nat.le_of_ble_eq_true rfl) (by decide +kernel) wcd_ap_78 ?_
  refine wt_bn_aload_n hE wcd_ap_81 rfl ?_
  refine wt_bn_iconst hE (3 : Int32) wcd_ap_82 wt_ci_3 ?_
  refine wt_bn_anew (N := 3) hE (va_AO.use hSA.1) [(0, 7)] (wt_g1 182 rfl rfl) wt_L48 (by decide) (by decide) (Nat.le_of_ble_eq_true rfl) (by decide +kernel) (by decide +kernel) rfl rfl (Nat.le_of_ble_eq_true rfl) (Nat.le_of_ble_eq_true rfl) wcd_ap_83 ?_
  refine wt_bn_putr (kf := 7) hE [] hR.2.1 wt_cf10 rfl (Nat.le_of_ble_eq_true rfl) rfl rfl (wt_g2 172 rfl rfl) (fun _ => rfl) (fun _ => rfl) wt_L0 rfl (Nat.le_of_ble_eq_true rfl) (Nat.le_of_ble_eq_true rfl) (by decide +kernel) wcd_ap_86 ?_
  refine wt_bn_iconst hE (0 : Int32) wcd_ap_89 wt_ci_0 ?_
  refine wt_bn_istore_n hE [some (.inr 0), some (.inl (0 : Int32))] wcd_ap_90 (by decide) rfl ?_
  refine wt_bn_iload_n hE wcd_ap_91 rfl ?_
  refine wt_bn_aload_n hE wcd_ap_92 rfl ?_
  refine wt_bn_getr (kf := 7) hE wt_cf10 rfl (Nat.le_of_ble_eq_true rfl) rfl (wt_g2 172 rfl rfl) wt_L0 rfl (Nat.le_of_ble_eq_true rfl) (by decide +kernel) wcd_ap_93 ?_
  refine wt_bn_alen2 hE (3 : Int32) wt_L48 (by decide) rfl wcd_ap_96 ?_
  refine wt_bn_icmp_geF hE 119 wcd_ap_97 rfl (by decide) ?_
  refine wt_bn_aload_n hE wcd_ap_100 rfl ?_
  refine wt_bn_getr (kf := 7) hE wt_cf10 rfl (Nat.le_of_ble_eq_true rfl) rfl (wt_g2 172 rfl rfl) wt_L0 rfl (Nat.le_of_ble_eq_true rfl) (by decide +kernel) wcd_ap_101 ?_
  refine wt_bn_iload_n hE wcd_ap_104 rfl ?_
  refine wt_bn_new hE [(48, 0)] wt_cf3 rfl (wt_g1 182 rfl rfl) (wt_g1 183 rfl rfl) (wt_g1 6 rfl rfl) (by decide) wt_L49 (by decide +kernel) (by decide +kernel) rfl rfl (Nat.le_of_ble_eq_true rfl) (Nat.le_of_ble_eq_true rfl) wcd_ap_105 ?_
  refine wt_bn_dup hE wcd_ap_108 ?_
  refine wt_bn_callI (dd := 2) (k2 := 62) hE wt_SA_fx hSA rfl (wt_g1 184 rfl rfl) (wt_g1 185 rfl rfl) (wt_g1 6 rfl rfl) wt_ya_st_init (fun ad => wc_st_49 (w := wt_at (wt_xw X) ad (fun i => i < 50)) (fun _ => Iff.rfl) (hz7.mono (by decide)) hc_6 hf_7) (by omega) rfl rfl (by decide) (Nat.le_of_ble_eq_true rfl) (Nat.le_of_ble_eq_true rfl) (by decide) hz8 rfl rfl wcd_ap_109 ?_
  refine wt_bn_aast hE [] wt_L48 (by decide) (by unfold vp_in; decide) rfl wt_L49 (by decide) (by decide) wcd_ap_112 ?_
  refine wt_bn_iinc hE (1 : Int32) [some (.inr 0), some (.inl (1 : Int32))] wcd_ap_113 (by decide) rfl (by decide) rfl ?_
  refine wt_bn_goto hE 91 wcd_ap_116 rfl ?_
  refine wt_bn_iload_n hE wcd_ap_91 rfl ?_
  refine wt_bn_aload_n hE wcd_ap_92 rfl ?_
  refine wt_bn_getr (kf := 7) hE wt_cf10 rfl (Nat.le_of_ble_eq_true rfl) rfl (wt_g2 172 rfl rfl) wt_L0 rfl (Nat.le_of_ble_eq_true rfl) (by decide +kernel) wcd_ap_93 ?_
  refine wt_bn_alen2 hE (3 : Int32) wt_L48 (by decide) rfl wcd_ap_96 ?_
  refine wt_bn_icmp_geF hE 119 wcd_ap_97 rfl (by decide) ?_
  refine wt_bn_aload_n hE wcd_ap_100 rfl ?_
  refine wt_bn_getr (kf := 7) hE wt_cf10 rfl (Nat.le_of_ble_eq_true rfl) rfl (wt_g2 172 rfl rfl) wt_L0 rfl (Nat.le_of_ble_eq_true rfl) (by decide +kernel) wcd_ap_101 ?_
  refine wt_bn_iload_n hE wcd_ap_104 rfl ?_
  refine wt_bn_new hE [(48, 1)] wt_cf3 rfl (wt_g1 182 rfl rfl) (wt_g1 183 rfl rfl) (wt_g1 6 rfl rfl) (by decide) wt_L58 (by decide +kernel) (by decide +kernel) rfl rfl (Nat.le_of_ble_eq_true rfl) (Nat.le_of_ble_eq_true rfl) wcd_ap_105 ?_
  refine wt_bn_dup hE wcd_ap_108 ?_
  refine wt_bn_callI (dd := 2) (k2 := 62) hE wt_SA_fx hSA rfl (wt_g1 184 rfl rfl) (wt_g1 185 rfl rfl) (wt_g1 6 rfl rfl) wt_ya_st_init (fun ad => wc_st_58 (w := wt_at (wt_xw X) ad (fun i => i < 59)) (fun _ => Iff.rfl) (hz8.mono (by decide)) hc_8 hf_9) (by omega) rfl rfl (by decide) (Nat.le_of_ble_eq_true rfl) (Nat.le_of_ble_eq_true rfl) (by decide) hz9 rfl rfl wcd_ap_109 ?_
  refine wt_bn_aast hE [] wt_L48 (by decide) (by unfold vp_in; decide) rfl wt_L58 (by decide) (by decide) wcd_ap_112 ?_
  refine wt_bn_iinc hE (2 : Int32) [some (.inr 0), some (.inl (2 : Int32))] wcd_ap_113 (by decide) rfl (by decide) rfl ?_
  refine wt_bn_goto hE 91 wcd_ap_116 rfl ?_
  refine wt_bn_iload_n hE wcd_ap_91 rfl ?_
  refine wt_bn_aload_n hE wcd_ap_92 rfl ?_
  refine wt_bn_getr (kf := 7) hE wt_cf10 rfl (Nat.le_of_ble_eq_true rfl) rfl (wt_g2 172 rfl rfl) wt_L0 rfl (Nat.le_of_ble_eq_true rfl) (by decide +kernel) wcd_ap_93 ?_
  refine wt_bn_alen2 hE (3 : Int32) wt_L48 (by decide) rfl wcd_ap_96 ?_
  refine wt_bn_icmp_geF hE 119 wcd_ap_97 rfl (by decide) ?_
  refine wt_bn_aload_n hE wcd_ap_100 rfl ?_
  refine wt_bn_getr (kf := 7) hE wt_cf10 rfl (Nat.le_of_ble_eq_true rfl) rfl (wt_g2 172 rfl rfl) wt_L0 rfl (Nat.le_of_ble_eq_true rfl) (by decide +kernel) wcd_ap_101 ?_
  refine wt_bn_iload_n hE wcd_ap_104 rfl ?_
  refine wt_bn_new hE [(48, 2)] wt_cf3 rfl (wt_g1 182 rfl rfl) (wt_g1 183 rfl rfl) (wt_g1 6 rfl rfl) (by decide) wt_L67 (by decide +kernel) (by decide +kernel) rfl rfl (Nat.le_of_ble_eq_true rfl) (Nat.le_of_ble_eq_true rfl) wcd_ap_105 ?_
  refine wt_bn_dup hE wcd_ap_108 ?_
  refine wt_bn_callI (dd := 2) (k2 := 62) hE wt_SA_fx hSA rfl (wt_g1 184 rfl rfl) (wt_g1 185 rfl rfl) (wt_g1 6 rfl rfl) wt_ya_st_init (fun ad => wc_st_67 (w := wt_at (wt_xw X) ad (fun i => i < 68)) (fun _ => Iff.rfl) (hz9.mono (by decide)) hc_10 hf_11) (by omega) rfl rfl (by decide) (Nat.le_of_ble_eq_true rfl) (Nat.le_of_ble_eq_true rfl) (by decide) hz10 rfl rfl wcd_ap_109 ?_
  refine wt_bn_aast hE [] wt_L48 (by decide) (by unfold vp_in; decide) rfl wt_L67 (by decide) (by decide) wcd_ap_112 ?_
  refine wt_bn_iinc hE (3 : Int32) [some (.inr 0), some (.inl (3 : Int32))] wcd_ap_113 (by decide) rfl (by decide) rfl ?_
  refine wt_bn_goto hE 91 wcd_ap_116 rfl ?_
  refine wt_bn_iload_n hE wcd_ap_91 rfl ?_
  refine wt_bn_aload_n hE wcd_ap_92 rfl ?_
  refine wt_bn_getr (kf := 7) hE wt_cf10 rfl (Nat.le_of_ble_eq_true rfl) rfl (wt_g2 172 rfl rfl) wt_L0 rfl (Nat.le_of_ble_eq_true rfl) (by decide +kernel) wcd_ap_93 ?_
  refine wt_bn_alen2 hE (3 : Int32) wt_L48 (by decide) rfl wcd_ap_96 ?_
  refine wt_bn_icmp_geT hE 119 wcd_ap_97 rfl (by decide) ?_
  refine wt_bn_aload_n hE wcd_ap_119 rfl ?_
  refine wt_bn_new hE [(0, 8), (76, 0), (76, 1)] wt_cf4 rfl (wt_g2 5 rfl rfl) (wt_g2 6 rfl rfl) (wt_g1 7 rfl rfl) (by decide) wt_L76 (by decide +kernel) (by decide +kernel) rfl rfl (Nat.le_of_ble_eq_true rfl) (Nat.le_of_ble_eq_true rfl) wcd_ap_120 ?_
  refine wt_bn_dup hE wcd_ap_123 ?_
  refine wt_bn_aload_n hE wcd_ap_124 rfl ?_
  refine wt_bn_getr (kf := 1) hE wt_cf10 rfl (Nat.le_of_ble_eq_true rfl) rfl (wt_g2 166 rfl rfl) wt_L0 rfl (Nat.le_of_ble_eq_true rfl) (by decide +kernel) wcd_ap_125 ?_
  refine wt_bn_aload_n hE wcd_ap_128 rfl ?_
  refine wt_bn_getr (kf := 6) hE wt_cf10 rfl (Nat.le_of_ble_eq_true rfl) rfl (wt_g2 171 rfl rfl) wt_L0 rfl (Nat.le_of_ble_eq_true rfl) (by decide +kernel) wcd_ap_129 ?_
  refine wt_bn_callI (dd := 1) (k2 := 0) hE wt_SA_fx hSA rfl (wt_g2 7 rfl rfl) (wt_g2 8 rfl rfl) (wt_g1 7 rfl rfl) wt_ya_sk_init (fun ad => wc_sk_76 (w := wt_at (wt_xw X) ad (fun i => i < 77)) (fun _ => Iff.rfl) (hz10.mono (by decide))) (by omega) rfl rfl (by decide) (Nat.le_of_ble_eq_true rfl) (Nat.le_of_ble_eq_true rfl) (by decide) hz11 rfl rfl wcd_ap_132 ?_
  refine wt_bn_putr (kf := 8) hE [] hR.2.1 wt_cf10 rfl (Nat.le_of_ble_eq_true rfl) rfl rfl (wt_g2 173 rfl rfl) (fun _ => rfl) (fun _ => rfl) wt_L0 rfl (Nat.le_of_ble_eq_true rfl) (Nat.le_of_ble_eq_true rfl) (by decide +kernel) wcd_ap_135 ?_
  refine wt_bn_aload_n hE wcd_ap_138 rfl ?_
  refine wt_bn_new hE [(0, 9), (77, 0), (77, 1), (77, 2), (77, 3), (77, 4)] wt_cf1 rfl (wt_g2 18 rfl rfl) (wt_g2 19 rfl rfl) (wt_g1 8 rfl rfl) (by decide) wt_L77 (by decide +kernel) (by decide +kernel) rfl rfl (Nat.le_of_ble_eq_true rfl) (Nat.le_of_ble_eq_true rfl) wcd_ap_139 ?_
  refine wt_bn_dup hE wcd_ap_142 ?_
  refine wt_bn_aload_n hE wcd_ap_143 rfl ?_
  refine wt_bn_getr (kf := 1) hE wt_cf10 rfl (Nat.le_of_ble_eq_true rfl) rfl (wt_g2 166 rfl rfl) wt_L0 rfl (Nat.le_of_ble_eq_true rfl) (by decide +kernel) wcd_ap_144 ?_
  refine wt_bn_aload_n hE wcd_ap_147 rfl ?_
  refine wt_bn_getr (kf := 3) hE wt_cf10 rfl (Nat.le_of_ble_eq_true rfl) rfl (wt_g2 168 rfl rfl) wt_L0 rfl (Nat.le_of_ble_eq_true rfl) (by decide +kernel) wcd_ap_148 ?_
  refine wt_bn_aload_n hE wcd_ap_151 rfl ?_
  refine wt_bn_getr (kf := 5) hE wt_cf10 rfl (Nat.le_of_ble_eq_true rfl) rfl (wt_g2 170 rfl rfl) wt_L0 rfl (Nat.le_of_ble_eq_true rfl) (by decide +kernel) wcd_ap_152 ?_
  refine wt_bn_aload_n hE wcd_ap_155 rfl ?_
  refine wt_bn_getr (kf := 6) hE wt_cf10 rfl (Nat.le_of_ble_eq_true rfl) rfl (wt_g2 171 rfl rfl) wt_L0 rfl (Nat.le_of_ble_eq_true rfl) (by decide +kernel) wcd_ap_156 ?_
  refine wt_bn_aload_n hE wcd_ap_159 rfl ?_
  refine wt_bn_getr (kf := 8) hE wt_cf10 rfl (Nat.le_of_ble_eq_true rfl) rfl (wt_g2 173 rfl rfl) wt_L0 rfl (Nat.le_of_ble_eq_true rfl) (by decide +kernel) wcd_ap_160 ?_
  refine wt_bn_callI (dd := 1) (k2 := 4) hE wt_SA_fx hSA rfl (wt_g2 20 rfl rfl) (wt_g2 21 rfl rfl) (wt_g1 8 rfl rfl) wt_ya_pg_init (fun ad => wc_pg_77 (w := wt_at (wt_xw X) ad (fun i => i < 78)) (fun _ => Iff.rfl) (hz11.mono (by decide))) (by omega) rfl rfl (by decide) (Nat.le_of_ble_eq_true rfl) (Nat.le_of_ble_eq_true rfl) (by decide) hz12 rfl rfl wcd_ap_163 ?_
  refine wt_bn_putr (kf := 9) hE [] hR.2.1 wt_cf10 rfl (Nat.le_of_ble_eq_true rfl) rfl rfl (wt_g2 174 rfl rfl) (fun _ => rfl) (fun _ => rfl) wt_L0 rfl (Nat.le_of_ble_eq_true rfl) (Nat.le_of_ble_eq_true rfl) (by decide +kernel) wcd_ap_166 ?_
  refine wt_bn_aload_n hE wcd_ap_169 rfl ?_
  refine wt_bn_new hE [(0, 10), (81, 0), (81, 1), (81, 2), (81, 3), (81, 4)] wt_cf2 rfl (wt_g2 49 rfl rfl) (wt_g2 50 rfl rfl) (wt_g1 9 rfl rfl) (by decide) wt_L81 (by decide +kernel) (by decide +kernel) rfl rfl (Nat.le_of_ble_eq_true rfl) (Nat.le_of_ble_eq_true rfl) wcd_ap_170 ?_
  refine wt_bn_dup hE wcd_ap_173 ?_
  refine wt_bn_aload_n hE wcd_ap_174 rfl ?_
  refine wt_bn_getr (kf := 1) hE wt_cf10 rfl (Nat.le_of_ble_eq_true rfl) rfl (wt_g2 166 rfl rfl) wt_L0 rfl (Nat.le_of_ble_eq_true rfl) (by decide +kernel) wcd_ap_175 ?_
  refine wt_bn_aload_n hE wcd_ap_178 rfl ?_
  refine wt_bn_getr (kf := 3) hE wt_cf10 rfl (Nat.le_of_ble_eq_true rfl) rfl (wt_g2 168 rfl rfl) wt_L0 rfl (Nat.le_of_ble_eq_true rfl) (by decide +kernel) wcd_ap_179 ?_
  refine wt_bn_aload_n hE wcd_ap_182 rfl ?_
  refine wt_bn_getr (kf := 5) hE wt_cf10 rfl (Nat.le_of_ble_eq_true rfl) rfl (wt_g2 170 rfl rfl) wt_L0 rfl (Nat.le_of_ble_eq_true rfl) (by decide +kernel) wcd_ap_183 ?_
  refine wt_bn_aload_n hE wcd_ap_186 rfl ?_
  refine wt_bn_getr (kf := 6) hE wt_cf10 rfl (Nat.le_of_ble_eq_true rfl) rfl (wt_g2 171 rfl rfl) wt_L0 rfl (Nat.le_of_ble_eq_true rfl) (by decide +kernel) wcd_ap_187 ?_
  refine wt_bn_aload_n hE wcd_ap_190 rfl ?_
  refine wt_bn_getr (kf := 8) hE wt_cf10 rfl (Nat.le_of_ble_eq_true rfl) rfl (wt_g2 173 rfl rfl) wt_L0 rfl (Nat.le_of_ble_eq_true rfl) (by decide +kernel) wcd_ap_191 ?_
  refine wt_bn_callI (dd := 1) (k2 := 7) hE wt_SA_fx hSA rfl (wt_g2 51 rfl rfl) (wt_g2 52 rfl rfl) (wt_g1 9 rfl rfl) wt_ya_rw_init (fun ad => wc_rw_81 (w := wt_at (wt_xw X) ad (fun i => i < 82)) (fun _ => Iff.rfl) (hz12.mono (by decide))) (by omega) rfl rfl (by decide) (Nat.le_of_ble_eq_true rfl) (Nat.le_of_ble_eq_true rfl) (by decide) hz13 rfl rfl wcd_ap_194 ?_
  refine wt_bn_putr (kf := 10) hE [] hR.2.1 wt_cf10 rfl (Nat.le_of_ble_eq_true rfl) rfl rfl (wt_g2 175 rfl rfl) (fun _ => rfl) (fun _ => rfl) wt_L0 rfl (Nat.le_of_ble_eq_true rfl) (Nat.le_of_ble_eq_true rfl) (by decide +kernel) wcd_ap_197 ?_
  refine wt_bn_aload_n hE wcd_ap_200 rfl ?_
  refine wt_bn_new hE [(0, 11), (86, 0), (86, 1), (86, 2), (86, 3)] wt_cf9 rfl (wt_g2 86 rfl rfl) (wt_g2 87 rfl rfl) (wt_g1 10 rfl rfl) (by decide) wt_L86 (by decide +kernel) (by decide +kernel) rfl rfl (Nat.le_of_ble_eq_true rfl) (Nat.le_of_ble_eq_true rfl) wcd_ap_201 ?_
  refine wt_bn_dup hE wcd_ap_204 ?_
  refine wt_bn_aload_n hE wcd_ap_205 rfl ?_
  refine wt_bn_getr (kf := 3) hE wt_cf10 rfl (Nat.le_of_ble_eq_true rfl) rfl (wt_g2 168 rfl rfl) wt_L0 rfl (Nat.le_of_ble_eq_true rfl) (by decide +kernel) wcd_ap_206 ?_
  refine wt_bn_aload_n hE wcd_ap_209 rfl ?_
  refine wt_bn_getr (kf := 5) hE wt_cf10 rfl (Nat.le_of_ble_eq_true rfl) rfl (wt_g2 170 rfl rfl) wt_L0 rfl (Nat.le_of_ble_eq_true rfl) (by decide +kernel) wcd_ap_210 ?_
  refine wt_bn_aload_n hE wcd_ap_213 rfl ?_
  refine wt_bn_getr (kf := 6) hE wt_cf10 rfl (Nat.le_of_ble_eq_true rfl) rfl (wt_g2 171 rfl rfl) wt_L0 rfl (Nat.le_of_ble_eq_true rfl) (by decide +kernel) wcd_ap_214 ?_
  refine wt_bn_aload_n hE wcd_ap_217 rfl ?_
  refine wt_bn_getr (kf := 8) hE wt_cf10 rfl (Nat.le_of_ble_eq_true rfl) rfl (wt_g2 173 rfl rfl) wt_L0 rfl (Nat.le_of_ble_eq_true rfl) (by decide +kernel) wcd_ap_218 ?_
  refine wt_bn_callI (dd := 1) (k2 := 218) hE wt_SA_fx hSA rfl (wt_g2 88 rfl rfl) (wt_g2 89 rfl rfl) (wt_g1 10 rfl rfl) wt_ya_wk_init (fun ad => wc_wk_86 (w := wt_at (wt_xw X) ad (fun i => i < 87)) (fun _ => Iff.rfl) (hz13.mono (by decide))) (by omega) rfl rfl (by decide) (Nat.le_of_ble_eq_true rfl) (Nat.le_of_ble_eq_true rfl) (by decide) hz14 rfl rfl wcd_ap_221 ?_
  refine wt_bn_putr (kf := 11) hE [] hR.2.1 wt_cf10 rfl (Nat.le_of_ble_eq_true rfl) rfl rfl (wt_g2 176 rfl rfl) (fun _ => rfl) (fun _ => rfl) wt_L0 rfl (Nat.le_of_ble_eq_true rfl) (Nat.le_of_ble_eq_true rfl) (by decide +kernel) wcd_ap_224 ?_
  refine wt_bn_aload_n hE wcd_ap_227 rfl ?_
  refine wt_bn_new hE [(0, 12), (101, 0), (101, 1), (101, 2), (101, 3)] wt_cf8 rfl (wt_g2 131 rfl rfl) (wt_g2 132 rfl rfl) (wt_g1 11 rfl rfl) (by decide) wt_L101 (by decide +kernel) (by decide +kernel) rfl rfl (Nat.le_of_ble_eq_true rfl) (Nat.le_of_ble_eq_true rfl) wcd_ap_228 ?_
  refine wt_bn_dup hE wcd_ap_231 ?_
  refine wt_bn_aload_n hE wcd_ap_232 rfl ?_
  refine wt_bn_getr (kf := 1) hE wt_cf10 rfl (Nat.le_of_ble_eq_true rfl) rfl (wt_g2 166 rfl rfl) wt_L0 rfl (Nat.le_of_ble_eq_true rfl) (by decide +kernel) wcd_ap_233 ?_
  refine wt_bn_aload_n hE wcd_ap_236 rfl ?_
  refine wt_bn_getr (kf := 5) hE wt_cf10 rfl (Nat.le_of_ble_eq_true rfl) rfl (wt_g2 170 rfl rfl) wt_L0 rfl (Nat.le_of_ble_eq_true rfl) (by decide +kernel) wcd_ap_237 ?_
  refine wt_bn_aload_n hE wcd_ap_240 rfl ?_
  refine wt_bn_getr (kf := 6) hE wt_cf10 rfl (Nat.le_of_ble_eq_true rfl) rfl (wt_g2 171 rfl rfl) wt_L0 rfl (Nat.le_of_ble_eq_true rfl) (by decide +kernel) wcd_ap_241 ?_
  refine wt_bn_aload_n hE wcd_ap_244 rfl ?_
  refine wt_bn_getr (kf := 8) hE wt_cf10 rfl (Nat.le_of_ble_eq_true rfl) rfl (wt_g2 173 rfl rfl) wt_L0 rfl (Nat.le_of_ble_eq_true rfl) (by decide +kernel) wcd_ap_245 ?_
  refine wt_bn_callI (dd := 1) (k2 := 9) hE wt_SA_fx hSA rfl (wt_g2 133 rfl rfl) (wt_g2 134 rfl rfl) (wt_g1 11 rfl rfl) wt_ya_tr_init (fun ad => wc_tr_101 (w := wt_at (wt_xw X) ad (fun i => i < 102)) (fun _ => Iff.rfl) (hz14.mono (by decide))) (by omega) rfl rfl (by decide) (Nat.le_of_ble_eq_true rfl) (Nat.le_of_ble_eq_true rfl) (by decide) hz15 rfl rfl wcd_ap_248 ?_
  refine wt_bn_putr (kf := 12) hE [] hR.2.1 wt_cf10 rfl (Nat.le_of_ble_eq_true rfl) rfl rfl (wt_g2 177 rfl rfl) (fun _ => rfl) (fun _ => rfl) wt_L0 rfl (Nat.le_of_ble_eq_true rfl) (Nat.le_of_ble_eq_true rfl) (by decide +kernel) wcd_ap_251 ?_
  refine wt_bn_aload_n hE wcd_ap_254 rfl ?_
  refine wt_bn_bipush hE (26 : Int32) wcd_ap_255 wt_cb_26 ?_
  refine wt_bn_newarr (N := 26) hE [(0, 13)] (wt_g1 69 rfl rfl) wt_L107 wt_cn_26.1 wt_cn_26.2 (Nat.le_of_ble_eq_true rfl) (by decide +kernel) rfl rfl (Nat.le_of_ble_eq_true rfl) (Nat.le_of_ble_eq_true rfl) wcd_ap_257 ?_
  refine wt_bn_putr (kf := 13) hE [] hR.2.1 wt_cf10 rfl (Nat.le_of_ble_eq_true rfl) rfl rfl (wt_g2 178 rfl rfl) (fun _ => rfl) (fun _ => rfl) wt_L0 rfl (Nat.le_of_ble_eq_true rfl) (Nat.le_of_ble_eq_true rfl) (by decide +kernel) wcd_ap_259 ?_
  refine wt_bn_aload_n hE wcd_ap_262 rfl ?_
  refine wt_bn_iconst hE (0 : Int32) wcd_ap_263 wt_ci_0 ?_
  refine wt_bn_puti (kf := 14) hE wt_cf10 rfl (by decide) rfl rfl (wt_g2 179 rfl rfl) rfl wt_L0 rfl (by decide) wcd_ap_264 ?_
  exact wt_bn_ret (k0 := 745) hE hR (Nat.le_of_ble_eq_true rfl) (Nat.le_of_ble_eq_true rfl) wcd_ap_267
def wb52ctr_prog_13_method_1_code_r14 : List (List Nat) := [60, 27, 7, 162, 0, 16, 42, 180, 0, 100, 27, 2, 79, 132, 1, 1, 167, 255, 241, 177] :: []
def wb52ctr_prog_13_method_1_code_r13 : List (List Nat) := [181, 0, 136, 42, 16, 12, 188, 10, 181, 0, 139, 42, 16, 10, 188, 10, 181, 0, 142, 42, 182, 0, 145, 42, 182, 0, 148, 3] :: wb52ctr_prog_13_method_1_code_r14
def wb52ctr_prog_13_method_1_code_r12 : List (List Nat) := [181, 0, 127, 42, 16, 12, 16, 60, 197, 0, 80, 2, 181, 0, 130, 42, 16, 12, 188, 10, 181, 0, 133, 42, 16, 12, 188, 10] :: wb52ctr_prog_13_method_1_code_r13
def wb52ctr_prog_13_method_1_code_r11 : List (List Nat) := [181, 0, 118, 42, 16, 9, 188, 10, 181, 0, 121, 42, 16, 26, 188, 10, 181, 0, 124, 42, 16, 12, 16, 60, 197, 0, 80, 2] :: wb52ctr_prog_13_method_1_code_r12
def wb52ctr_prog_13_method_1_code_r10 : List (List Nat) := [197, 0, 80, 2, 181, 0, 109, 42, 17, 1, 82, 188, 10, 181, 0, 112, 42, 16, 26, 188, 10, 181, 0, 115, 42, 16, 108, 188, 10] :: wb52ctr_prog_13_method_1_code_r11
def wb52ctr_prog_13_method_1_code_r9 : List (List Nat) := [188, 10, 181, 0, 100, 42, 7, 188, 10, 181, 0, 103, 42, 7, 16, 108, 197, 0, 80, 2, 181, 0, 106, 42, 6, 17, 4, 134] :: wb52ctr_prog_13_method_1_code_r10
def wb52ctr_prog_13_method_1_code_r8 : List (List Nat) := [197, 0, 80, 2, 181, 0, 91, 42, 16, 10, 7, 197, 0, 80, 2, 181, 0, 94, 42, 16, 12, 188, 10, 181, 0, 97, 42, 7] :: wb52ctr_prog_13_method_1_code_r9
def wb52ctr_prog_13_method_1_code_r7 : List (List Nat) := [181, 0, 82, 42, 16, 60, 16, 9, 197, 0, 80, 2, 181, 0, 85, 42, 16, 8, 188, 10, 181, 0, 88, 42, 16, 8, 16, 12] :: wb52ctr_prog_13_method_1_code_r8
def wb52ctr_prog_13_method_1_code_r6 : List (List Nat) := [181, 0, 71, 42, 16, 61, 188, 10, 181, 0, 74, 42, 16, 61, 188, 10, 181, 0, 77, 42, 16, 60, 16, 9, 197, 0, 80, 2] :: wb52ctr_prog_13_method_1_code_r7
def wb52ctr_prog_13_method_1_code_r5 : List (List Nat) := [16, 60, 188, 10, 181, 0, 62, 42, 16, 60, 188, 10, 181, 0, 65, 42, 16, 60, 188, 10, 181, 0, 68, 42, 16, 60, 188, 10] :: wb52ctr_prog_13_method_1_code_r6
def wb52ctr_prog_13_method_1_code_r4 : List (List Nat) := [42, 17, 1, 82, 188, 10, 181, 0, 53, 42, 17, 1, 82, 188, 10, 181, 0, 56, 42, 17, 1, 82, 188, 10, 181, 0, 59, 42] :: wb52ctr_prog_13_method_1_code_r5
def wb52ctr_prog_13_method_1_code_r3 : List (List Nat) := [181, 0, 41, 42, 7, 188, 10, 181, 0, 44, 42, 17, 1, 82, 188, 10, 181, 0, 47, 42, 17, 1, 82, 188, 10, 181, 0, 50] :: wb52ctr_prog_13_method_1_code_r4
def wb52ctr_prog_13_method_1_code_r2 : List (List Nat) := [42, 16, 26, 188, 10, 181, 0, 32, 42, 16, 26, 188, 10, 181, 0, 35, 42, 16, 26, 188, 10, 181, 0, 38, 42, 7, 188, 10] :: wb52ctr_prog_13_method_1_code_r3
def wb52ctr_prog_13_method_1_code_r1 : List (List Nat) := [188, 10, 181, 0, 20, 42, 16, 26, 188, 10, 181, 0, 23, 42, 16, 26, 188, 10, 181, 0, 26, 42, 16, 26, 188, 10, 181, 0, 29] :: wb52ctr_prog_13_method_1_code_r2
def wb52ctr_prog_13_method_1_code_r0 : List (List Nat) := [42, 183, 0, 3, 42, 2, 181, 0, 9, 42, 17, 1, 244, 188, 10, 181, 0, 13, 42, 16, 26, 188, 10, 181, 0, 17, 42, 16, 26] :: wb52ctr_prog_13_method_1_code_r1
set_option maxRecDepth 100000 in
theorem wb52ctr_prog_13_method_1_code_c0 : wt_cs prog_13_method_1_code 0 wb52ctr_prog_13_method_1_code_r0 := wt_cs_of (by decide +kernel)
theorem wb52ctr_prog_13_method_1_code_c1 : wt_cs prog_13_method_1_code 29 wb52ctr_prog_13_method_1_code_r1 := wt_cs_tl (m := 29) wb52ctr_prog_13_method_1_code_c0 rfl rfl
theorem wb52ctr_prog_13_method_1_code_c2 : wt_cs prog_13_method_1_code 58 wb52ctr_prog_13_method_1_code_r2 := wt_cs_tl (m := 29) wb52ctr_prog_13_method_1_code_c1 rfl rfl
theorem wb52ctr_prog_13_method_1_code_c3 : wt_cs prog_13_method_1_code 86 wb52ctr_prog_13_method_1_code_r3 := wt_cs_tl (m := 28) wb52ctr_prog_13_method_1_code_c2 rfl rfl
theorem wb52ctr_prog_13_method_1_code_c4 : wt_cs prog_13_method_1_code 114 wb52ctr_prog_13_method_1_code_r4 := wt_cs_tl (m := 28) wb52ctr_prog_13_method_1_code_c3 rfl rfl
theorem wb52ctr_prog_13_method_1_code_c5 : wt_cs prog_13_method_1_code 142 wb52ctr_prog_13_method_1_code_r5 := wt_cs_tl (m := 28) wb52ctr_prog_13_method_1_code_c4 rfl rfl
theorem wb52ctr_prog_13_method_1_code_c6 : wt_cs prog_13_method_1_code 170 wb52ctr_prog_13_method_1_code_r6 := wt_cs_tl (m := 28) wb52ctr_prog_13_method_1_code_c5 rfl rfl
theorem wb52ctr_prog_13_method_1_code_c7 : wt_cs prog_13_method_1_code 198 wb52ctr_prog_13_method_1_code_r7 := wt_cs_tl (m := 28) wb52ctr_prog_13_method_1_code_c6 rfl rfl
theorem wb52ctr_prog_13_method_1_code_c8 : wt_cs prog_13_method_1_code 226 wb52ctr_prog_13_method_1_code_r8 := wt_cs_tl (m := 28) wb52ctr_prog_13_method_1_code_c7 rfl rfl
theorem wb52ctr_prog_13_method_1_code_c9 : wt_cs prog_13_method_1_code 254 wb52ctr_prog_13_method_1_code_r9 := wt_cs_tl (m := 28) wb52ctr_prog_13_method_1_code_c8 rfl rfl
theorem wb52ctr_prog_13_method_1_code_c10 : wt_cs prog_13_method_1_code 282 wb52ctr_prog_13_method_1_code_r10 := wt_cs_tl (m := 28) wb52ctr_prog_13_method_1_code_c9 rfl rfl
theorem wb52ctr_prog_13_method_1_code_c11 : wt_cs prog_13_method_1_code 311 wb52ctr_prog_13_method_1_code_r11 := wt_cs_tl (m := 29) wb52ctr_prog_13_method_1_code_c10 rfl rfl
theorem wb52ctr_prog_13_method_1_code_c12 : wt_cs prog_13_method_1_code 339 wb52ctr_prog_13_method_1_code_r12 := wt_cs_tl (m := 28) wb52ctr_prog_13_method_1_code_c11 rfl rfl
theorem wb52ctr_prog_13_method_1_code_c13 : wt_cs prog_13_method_1_code 367 wb52ctr_prog_13_method_1_code_r13 := wt_cs_tl (m := 28) wb52ctr_prog_13_method_1_code_c12 rfl rfl
theorem wb52ctr_prog_13_method_1_code_c14 : wt_cs prog_13_method_1_code 395 wb52ctr_prog_13_method_1_code_r14 := wt_cs_tl (m := 28) wb52ctr_prog_13_method_1_code_c13 rfl rfl
theorem wcd_md_0 : decode prog_13_method_1_code 0 = .ok (.aload_n 0, 1) := wt_op42 wb52ctr_prog_13_method_1_code_c0 0 rfl rfl
theorem wcd_md_1 : decode prog_13_method_1_code 1 = .ok (.invokespecial 3, 3) := wt_op183 wb52ctr_prog_13_method_1_code_c0 1 rfl rfl rfl
theorem wcd_md_4 : decode prog_13_method_1_code 4 = .ok (.aload_n 0, 1) := wt_op42 wb52ctr_prog_13_method_1_code_c0 4 rfl rfl
theorem wcd_md_5 : decode prog_13_method_1_code 5 = .ok (.iconst (-1), 1) := wt_op2 wb52ctr_prog_13_method_1_code_c0 5 rfl rfl
theorem wcd_md_6 : decode prog_13_method_1_code 6 = .ok (.putfield 9, 3) := wt_op181 wb52ctr_prog_13_method_1_code_c0 6 rfl rfl rfl
theorem wcd_md_9 : decode prog_13_method_1_code 9 = .ok (.aload_n 0, 1) := wt_op42 wb52ctr_prog_13_method_1_code_c0 9 rfl rfl
theorem wcd_md_10 : decode prog_13_method_1_code 10 = .ok (.sipush 500, 3) := wt_op17 wb52ctr_prog_13_method_1_code_c0 10 rfl rfl rfl
theorem wcd_md_13 : decode prog_13_method_1_code 13 = .ok (.newarray .int, 2) := wt_op188 wb52ctr_prog_13_method_1_code_c0 13 rfl rfl
theorem wcd_md_15 : decode prog_13_method_1_code 15 = .ok (.putfield 13, 3) := wt_op181 wb52ctr_prog_13_method_1_code_c0 15 rfl rfl rfl
theorem wcd_md_18 : decode prog_13_method_1_code 18 = .ok (.aload_n 0, 1) := wt_op42 wb52ctr_prog_13_method_1_code_c0 18 rfl rfl
theorem wcd_md_19 : decode prog_13_method_1_code 19 = .ok (.bipush 26, 2) := wt_op16 wb52ctr_prog_13_method_1_code_c0 19 rfl rfl rfl
theorem wcd_md_21 : decode prog_13_method_1_code 21 = .ok (.newarray .int, 2) := wt_op188 wb52ctr_prog_13_method_1_code_c0 21 rfl rfl
theorem wcd_md_23 : decode prog_13_method_1_code 23 = .ok (.putfield 17, 3) := wt_op181 wb52ctr_prog_13_method_1_code_c0 23 rfl rfl rfl
theorem wcd_md_26 : decode prog_13_method_1_code 26 = .ok (.aload_n 0, 1) := wt_op42 wb52ctr_prog_13_method_1_code_c0 26 rfl rfl
theorem wcd_md_27 : decode prog_13_method_1_code 27 = .ok (.bipush 26, 2) := wt_op16 wb52ctr_prog_13_method_1_code_c0 27 rfl rfl rfl
theorem wcd_md_29 : decode prog_13_method_1_code 29 = .ok (.newarray .int, 2) := wt_op188 wb52ctr_prog_13_method_1_code_c1 0 rfl rfl
theorem wcd_md_31 : decode prog_13_method_1_code 31 = .ok (.putfield 20, 3) := wt_op181 wb52ctr_prog_13_method_1_code_c1 2 rfl rfl rfl
theorem wcd_md_34 : decode prog_13_method_1_code 34 = .ok (.aload_n 0, 1) := wt_op42 wb52ctr_prog_13_method_1_code_c1 5 rfl rfl
theorem wcd_md_35 : decode prog_13_method_1_code 35 = .ok (.bipush 26, 2) := wt_op16 wb52ctr_prog_13_method_1_code_c1 6 rfl rfl rfl
theorem wcd_md_37 : decode prog_13_method_1_code 37 = .ok (.newarray .int, 2) := wt_op188 wb52ctr_prog_13_method_1_code_c1 8 rfl rfl
theorem wcd_md_39 : decode prog_13_method_1_code 39 = .ok (.putfield 23, 3) := wt_op181 wb52ctr_prog_13_method_1_code_c1 10 rfl rfl rfl
theorem wcd_md_42 : decode prog_13_method_1_code 42 = .ok (.aload_n 0, 1) := wt_op42 wb52ctr_prog_13_method_1_code_c1 13 rfl rfl
theorem wcd_md_43 : decode prog_13_method_1_code 43 = .ok (.bipush 26, 2) := wt_op16 wb52ctr_prog_13_method_1_code_c1 14 rfl rfl rfl
theorem wcd_md_45 : decode prog_13_method_1_code 45 = .ok (.newarray .int, 2) := wt_op188 wb52ctr_prog_13_method_1_code_c1 16 rfl rfl
theorem wcd_md_47 : decode prog_13_method_1_code 47 = .ok (.putfield 26, 3) := wt_op181 wb52ctr_prog_13_method_1_code_c1 18 rfl rfl rfl
theorem wcd_md_50 : decode prog_13_method_1_code 50 = .ok (.aload_n 0, 1) := wt_op42 wb52ctr_prog_13_method_1_code_c1 21 rfl rfl
theorem wcd_md_51 : decode prog_13_method_1_code 51 = .ok (.bipush 26, 2) := wt_op16 wb52ctr_prog_13_method_1_code_c1 22 rfl rfl rfl
theorem wcd_md_53 : decode prog_13_method_1_code 53 = .ok (.newarray .int, 2) := wt_op188 wb52ctr_prog_13_method_1_code_c1 24 rfl rfl
theorem wcd_md_55 : decode prog_13_method_1_code 55 = .ok (.putfield 29, 3) := wt_op181 wb52ctr_prog_13_method_1_code_c1 26 rfl rfl rfl
theorem wcd_md_58 : decode prog_13_method_1_code 58 = .ok (.aload_n 0, 1) := wt_op42 wb52ctr_prog_13_method_1_code_c2 0 rfl rfl
theorem wcd_md_59 : decode prog_13_method_1_code 59 = .ok (.bipush 26, 2) := wt_op16 wb52ctr_prog_13_method_1_code_c2 1 rfl rfl rfl
theorem wcd_md_61 : decode prog_13_method_1_code 61 = .ok (.newarray .int, 2) := wt_op188 wb52ctr_prog_13_method_1_code_c2 3 rfl rfl
theorem wcd_md_63 : decode prog_13_method_1_code 63 = .ok (.putfield 32, 3) := wt_op181 wb52ctr_prog_13_method_1_code_c2 5 rfl rfl rfl
theorem wcd_md_66 : decode prog_13_method_1_code 66 = .ok (.aload_n 0, 1) := wt_op42 wb52ctr_prog_13_method_1_code_c2 8 rfl rfl
theorem wcd_md_67 : decode prog_13_method_1_code 67 = .ok (.bipush 26, 2) := wt_op16 wb52ctr_prog_13_method_1_code_c2 9 rfl rfl rfl
theorem wcd_md_69 : decode prog_13_method_1_code 69 = .ok (.newarray .int, 2) := wt_op188 wb52ctr_prog_13_method_1_code_c2 11 rfl rfl
theorem wcd_md_71 : decode prog_13_method_1_code 71 = .ok (.putfield 35, 3) := wt_op181 wb52ctr_prog_13_method_1_code_c2 13 rfl rfl rfl
theorem wcd_md_74 : decode prog_13_method_1_code 74 = .ok (.aload_n 0, 1) := wt_op42 wb52ctr_prog_13_method_1_code_c2 16 rfl rfl
theorem wcd_md_75 : decode prog_13_method_1_code 75 = .ok (.bipush 26, 2) := wt_op16 wb52ctr_prog_13_method_1_code_c2 17 rfl rfl rfl
theorem wcd_md_77 : decode prog_13_method_1_code 77 = .ok (.newarray .int, 2) := wt_op188 wb52ctr_prog_13_method_1_code_c2 19 rfl rfl
theorem wcd_md_79 : decode prog_13_method_1_code 79 = .ok (.putfield 38, 3) := wt_op181 wb52ctr_prog_13_method_1_code_c2 21 rfl rfl rfl
theorem wcd_md_82 : decode prog_13_method_1_code 82 = .ok (.aload_n 0, 1) := wt_op42 wb52ctr_prog_13_method_1_code_c2 24 rfl rfl
theorem wcd_md_83 : decode prog_13_method_1_code 83 = .ok (.iconst 4, 1) := wt_op7 wb52ctr_prog_13_method_1_code_c2 25 rfl rfl
theorem wcd_md_84 : decode prog_13_method_1_code 84 = .ok (.newarray .int, 2) := wt_op188 wb52ctr_prog_13_method_1_code_c2 26 rfl rfl
theorem wcd_md_86 : decode prog_13_method_1_code 86 = .ok (.putfield 41, 3) := wt_op181 wb52ctr_prog_13_method_1_code_c3 0 rfl rfl rfl
theorem wcd_md_89 : decode prog_13_method_1_code 89 = .ok (.aload_n 0, 1) := wt_op42 wb52ctr_prog_13_method_1_code_c3 3 rfl rfl
theorem wcd_md_90 : decode prog_13_method_1_code 90 = .ok (.iconst 4, 1) := wt_op7 wb52ctr_prog_13_method_1_code_c3 4 rfl rfl
theorem wcd_md_91 : decode prog_13_method_1_code 91 = .ok (.newarray .int, 2) := wt_op188 wb52ctr_prog_13_method_1_code_c3 5 rfl rfl
theorem wcd_md_93 : decode prog_13_method_1_code 93 = .ok (.putfield 44, 3) := wt_op181 wb52ctr_prog_13_method_1_code_c3 7 rfl rfl rfl
theorem wcd_md_96 : decode prog_13_method_1_code 96 = .ok (.aload_n 0, 1) := wt_op42 wb52ctr_prog_13_method_1_code_c3 10 rfl rfl
theorem wcd_md_97 : decode prog_13_method_1_code 97 = .ok (.sipush 338, 3) := wt_op17 wb52ctr_prog_13_method_1_code_c3 11 rfl rfl rfl
theorem wcd_md_100 : decode prog_13_method_1_code 100 = .ok (.newarray .int, 2) := wt_op188 wb52ctr_prog_13_method_1_code_c3 14 rfl rfl
theorem wcd_md_102 : decode prog_13_method_1_code 102 = .ok (.putfield 47, 3) := wt_op181 wb52ctr_prog_13_method_1_code_c3 16 rfl rfl rfl
theorem wcd_md_105 : decode prog_13_method_1_code 105 = .ok (.aload_n 0, 1) := wt_op42 wb52ctr_prog_13_method_1_code_c3 19 rfl rfl
theorem wcd_md_106 : decode prog_13_method_1_code 106 = .ok (.sipush 338, 3) := wt_op17 wb52ctr_prog_13_method_1_code_c3 20 rfl rfl rfl
theorem wcd_md_109 : decode prog_13_method_1_code 109 = .ok (.newarray .int, 2) := wt_op188 wb52ctr_prog_13_method_1_code_c3 23 rfl rfl
theorem wcd_md_111 : decode prog_13_method_1_code 111 = .ok (.putfield 50, 3) := wt_op181 wb52ctr_prog_13_method_1_code_c3 25 rfl rfl rfl
theorem wcd_md_114 : decode prog_13_method_1_code 114 = .ok (.aload_n 0, 1) := wt_op42 wb52ctr_prog_13_method_1_code_c4 0 rfl rfl
theorem wcd_md_115 : decode prog_13_method_1_code 115 = .ok (.sipush 338, 3) := wt_op17 wb52ctr_prog_13_method_1_code_c4 1 rfl rfl rfl
theorem wcd_md_118 : decode prog_13_method_1_code 118 = .ok (.newarray .int, 2) := wt_op188 wb52ctr_prog_13_method_1_code_c4 4 rfl rfl
theorem wcd_md_120 : decode prog_13_method_1_code 120 = .ok (.putfield 53, 3) := wt_op181 wb52ctr_prog_13_method_1_code_c4 6 rfl rfl rfl
theorem wcd_md_123 : decode prog_13_method_1_code 123 = .ok (.aload_n 0, 1) := wt_op42 wb52ctr_prog_13_method_1_code_c4 9 rfl rfl
theorem wcd_md_124 : decode prog_13_method_1_code 124 = .ok (.sipush 338, 3) := wt_op17 wb52ctr_prog_13_method_1_code_c4 10 rfl rfl rfl
theorem wcd_md_127 : decode prog_13_method_1_code 127 = .ok (.newarray .int, 2) := wt_op188 wb52ctr_prog_13_method_1_code_c4 13 rfl rfl
theorem wcd_md_129 : decode prog_13_method_1_code 129 = .ok (.putfield 56, 3) := wt_op181 wb52ctr_prog_13_method_1_code_c4 15 rfl rfl rfl
theorem wcd_md_132 : decode prog_13_method_1_code 132 = .ok (.aload_n 0, 1) := wt_op42 wb52ctr_prog_13_method_1_code_c4 18 rfl rfl
theorem wcd_md_133 : decode prog_13_method_1_code 133 = .ok (.sipush 338, 3) := wt_op17 wb52ctr_prog_13_method_1_code_c4 19 rfl rfl rfl
theorem wcd_md_136 : decode prog_13_method_1_code 136 = .ok (.newarray .int, 2) := wt_op188 wb52ctr_prog_13_method_1_code_c4 22 rfl rfl
theorem wcd_md_138 : decode prog_13_method_1_code 138 = .ok (.putfield 59, 3) := wt_op181 wb52ctr_prog_13_method_1_code_c4 24 rfl rfl rfl
theorem wcd_md_141 : decode prog_13_method_1_code 141 = .ok (.aload_n 0, 1) := wt_op42 wb52ctr_prog_13_method_1_code_c4 27 rfl rfl
theorem wcd_md_142 : decode prog_13_method_1_code 142 = .ok (.bipush 60, 2) := wt_op16 wb52ctr_prog_13_method_1_code_c5 0 rfl rfl rfl
theorem wcd_md_144 : decode prog_13_method_1_code 144 = .ok (.newarray .int, 2) := wt_op188 wb52ctr_prog_13_method_1_code_c5 2 rfl rfl
theorem wcd_md_146 : decode prog_13_method_1_code 146 = .ok (.putfield 62, 3) := wt_op181 wb52ctr_prog_13_method_1_code_c5 4 rfl rfl rfl
theorem wcd_md_149 : decode prog_13_method_1_code 149 = .ok (.aload_n 0, 1) := wt_op42 wb52ctr_prog_13_method_1_code_c5 7 rfl rfl
theorem wcd_md_150 : decode prog_13_method_1_code 150 = .ok (.bipush 60, 2) := wt_op16 wb52ctr_prog_13_method_1_code_c5 8 rfl rfl rfl
theorem wcd_md_152 : decode prog_13_method_1_code 152 = .ok (.newarray .int, 2) := wt_op188 wb52ctr_prog_13_method_1_code_c5 10 rfl rfl
theorem wcd_md_154 : decode prog_13_method_1_code 154 = .ok (.putfield 65, 3) := wt_op181 wb52ctr_prog_13_method_1_code_c5 12 rfl rfl rfl
theorem wcd_md_157 : decode prog_13_method_1_code 157 = .ok (.aload_n 0, 1) := wt_op42 wb52ctr_prog_13_method_1_code_c5 15 rfl rfl
theorem wcd_md_158 : decode prog_13_method_1_code 158 = .ok (.bipush 60, 2) := wt_op16 wb52ctr_prog_13_method_1_code_c5 16 rfl rfl rfl
theorem wcd_md_160 : decode prog_13_method_1_code 160 = .ok (.newarray .int, 2) := wt_op188 wb52ctr_prog_13_method_1_code_c5 18 rfl rfl
theorem wcd_md_162 : decode prog_13_method_1_code 162 = .ok (.putfield 68, 3) := wt_op181 wb52ctr_prog_13_method_1_code_c5 20 rfl rfl rfl
theorem wcd_md_165 : decode prog_13_method_1_code 165 = .ok (.aload_n 0, 1) := wt_op42 wb52ctr_prog_13_method_1_code_c5 23 rfl rfl
theorem wcd_md_166 : decode prog_13_method_1_code 166 = .ok (.bipush 60, 2) := wt_op16 wb52ctr_prog_13_method_1_code_c5 24 rfl rfl rfl
theorem wcd_md_168 : decode prog_13_method_1_code 168 = .ok (.newarray .int, 2) := wt_op188 wb52ctr_prog_13_method_1_code_c5 26 rfl rfl
theorem wcd_md_170 : decode prog_13_method_1_code 170 = .ok (.putfield 71, 3) := wt_op181 wb52ctr_prog_13_method_1_code_c6 0 rfl rfl rfl
theorem wcd_md_173 : decode prog_13_method_1_code 173 = .ok (.aload_n 0, 1) := wt_op42 wb52ctr_prog_13_method_1_code_c6 3 rfl rfl
theorem wcd_md_174 : decode prog_13_method_1_code 174 = .ok (.bipush 61, 2) := wt_op16 wb52ctr_prog_13_method_1_code_c6 4 rfl rfl rfl
theorem wcd_md_176 : decode prog_13_method_1_code 176 = .ok (.newarray .int, 2) := wt_op188 wb52ctr_prog_13_method_1_code_c6 6 rfl rfl
theorem wcd_md_178 : decode prog_13_method_1_code 178 = .ok (.putfield 74, 3) := wt_op181 wb52ctr_prog_13_method_1_code_c6 8 rfl rfl rfl
theorem wcd_md_181 : decode prog_13_method_1_code 181 = .ok (.aload_n 0, 1) := wt_op42 wb52ctr_prog_13_method_1_code_c6 11 rfl rfl
theorem wcd_md_182 : decode prog_13_method_1_code 182 = .ok (.bipush 61, 2) := wt_op16 wb52ctr_prog_13_method_1_code_c6 12 rfl rfl rfl
theorem wcd_md_184 : decode prog_13_method_1_code 184 = .ok (.newarray .int, 2) := wt_op188 wb52ctr_prog_13_method_1_code_c6 14 rfl rfl
theorem wcd_md_186 : decode prog_13_method_1_code 186 = .ok (.putfield 77, 3) := wt_op181 wb52ctr_prog_13_method_1_code_c6 16 rfl rfl rfl
theorem wcd_md_189 : decode prog_13_method_1_code 189 = .ok (.aload_n 0, 1) := wt_op42 wb52ctr_prog_13_method_1_code_c6 19 rfl rfl
theorem wcd_md_190 : decode prog_13_method_1_code 190 = .ok (.bipush 60, 2) := wt_op16 wb52ctr_prog_13_method_1_code_c6 20 rfl rfl rfl
theorem wcd_md_192 : decode prog_13_method_1_code 192 = .ok (.bipush 9, 2) := wt_op16 wb52ctr_prog_13_method_1_code_c6 22 rfl rfl rfl
theorem wcd_md_194 : decode prog_13_method_1_code 194 = .ok (.multianewarray 80 2, 4) := by decide +kernel
theorem wcd_md_198 : decode prog_13_method_1_code 198 = .ok (.putfield 82, 3) := wt_op181 wb52ctr_prog_13_method_1_code_c7 0 rfl rfl rfl
theorem wcd_md_201 : decode prog_13_method_1_code 201 = .ok (.aload_n 0, 1) := wt_op42 wb52ctr_prog_13_method_1_code_c7 3 rfl rfl
theorem wcd_md_202 : decode prog_13_method_1_code 202 = .ok (.bipush 60, 2) := wt_op16 wb52ctr_prog_13_method_1_code_c7 4 rfl rfl rfl
theorem wcd_md_204 : decode prog_13_method_1_code 204 = .ok (.bipush 9, 2) := wt_op16 wb52ctr_prog_13_method_1_code_c7 6 rfl rfl rfl
theorem wcd_md_206 : decode prog_13_method_1_code 206 = .ok (.multianewarray 80 2, 4) := by decide +kernel
theorem wcd_md_210 : decode prog_13_method_1_code 210 = .ok (.putfield 85, 3) := wt_op181 wb52ctr_prog_13_method_1_code_c7 12 rfl rfl rfl
theorem wcd_md_213 : decode prog_13_method_1_code 213 = .ok (.aload_n 0, 1) := wt_op42 wb52ctr_prog_13_method_1_code_c7 15 rfl rfl
theorem wcd_md_214 : decode prog_13_method_1_code 214 = .ok (.bipush 8, 2) := wt_op16 wb52ctr_prog_13_method_1_code_c7 16 rfl rfl rfl
theorem wcd_md_216 : decode prog_13_method_1_code 216 = .ok (.newarray .int, 2) := wt_op188 wb52ctr_prog_13_method_1_code_c7 18 rfl rfl
theorem wcd_md_218 : decode prog_13_method_1_code 218 = .ok (.putfield 88, 3) := wt_op181 wb52ctr_prog_13_method_1_code_c7 20 rfl rfl rfl
theorem wcd_md_221 : decode prog_13_method_1_code 221 = .ok (.aload_n 0, 1) := wt_op42 wb52ctr_prog_13_method_1_code_c7 23 rfl rfl
theorem wcd_md_222 : decode prog_13_method_1_code 222 = .ok (.bipush 8, 2) := wt_op16 wb52ctr_prog_13_method_1_code_c7 24 rfl rfl rfl
theorem wcd_md_224 : decode prog_13_method_1_code 224 = .ok (.bipush 12, 2) := wt_op16 wb52ctr_prog_13_method_1_code_c7 26 rfl rfl rfl
theorem wcd_md_226 : decode prog_13_method_1_code 226 = .ok (.multianewarray 80 2, 4) := by decide +kernel
theorem wcd_md_230 : decode prog_13_method_1_code 230 = .ok (.putfield 91, 3) := wt_op181 wb52ctr_prog_13_method_1_code_c8 4 rfl rfl rfl
theorem wcd_md_233 : decode prog_13_method_1_code 233 = .ok (.aload_n 0, 1) := wt_op42 wb52ctr_prog_13_method_1_code_c8 7 rfl rfl
theorem wcd_md_234 : decode prog_13_method_1_code 234 = .ok (.bipush 10, 2) := wt_op16 wb52ctr_prog_13_method_1_code_c8 8 rfl rfl rfl
theorem wcd_md_236 : decode prog_13_method_1_code 236 = .ok (.iconst 4, 1) := wt_op7 wb52ctr_prog_13_method_1_code_c8 10 rfl rfl
theorem wcd_md_237 : decode prog_13_method_1_code 237 = .ok (.multianewarray 80 2, 4) := by decide +kernel
theorem wcd_md_241 : decode prog_13_method_1_code 241 = .ok (.putfield 94, 3) := wt_op181 wb52ctr_prog_13_method_1_code_c8 15 rfl rfl rfl
theorem wcd_md_244 : decode prog_13_method_1_code 244 = .ok (.aload_n 0, 1) := wt_op42 wb52ctr_prog_13_method_1_code_c8 18 rfl rfl
theorem wcd_md_245 : decode prog_13_method_1_code 245 = .ok (.bipush 12, 2) := wt_op16 wb52ctr_prog_13_method_1_code_c8 19 rfl rfl rfl
theorem wcd_md_247 : decode prog_13_method_1_code 247 = .ok (.newarray .int, 2) := wt_op188 wb52ctr_prog_13_method_1_code_c8 21 rfl rfl
theorem wcd_md_249 : decode prog_13_method_1_code 249 = .ok (.putfield 97, 3) := wt_op181 wb52ctr_prog_13_method_1_code_c8 23 rfl rfl rfl
theorem wcd_md_252 : decode prog_13_method_1_code 252 = .ok (.aload_n 0, 1) := wt_op42 wb52ctr_prog_13_method_1_code_c8 26 rfl rfl
theorem wcd_md_253 : decode prog_13_method_1_code 253 = .ok (.iconst 4, 1) := wt_op7 wb52ctr_prog_13_method_1_code_c8 27 rfl rfl
theorem wcd_md_254 : decode prog_13_method_1_code 254 = .ok (.newarray .int, 2) := wt_op188 wb52ctr_prog_13_method_1_code_c9 0 rfl rfl
theorem wcd_md_256 : decode prog_13_method_1_code 256 = .ok (.putfield 100, 3) := wt_op181 wb52ctr_prog_13_method_1_code_c9 2 rfl rfl rfl
theorem wcd_md_259 : decode prog_13_method_1_code 259 = .ok (.aload_n 0, 1) := wt_op42 wb52ctr_prog_13_method_1_code_c9 5 rfl rfl
theorem wcd_md_260 : decode prog_13_method_1_code 260 = .ok (.iconst 4, 1) := wt_op7 wb52ctr_prog_13_method_1_code_c9 6 rfl rfl
theorem wcd_md_261 : decode prog_13_method_1_code 261 = .ok (.newarray .int, 2) := wt_op188 wb52ctr_prog_13_method_1_code_c9 7 rfl rfl
theorem wcd_md_263 : decode prog_13_method_1_code 263 = .ok (.putfield 103, 3) := wt_op181 wb52ctr_prog_13_method_1_code_c9 9 rfl rfl rfl
theorem wcd_md_266 : decode prog_13_method_1_code 266 = .ok (.aload_n 0, 1) := wt_op42 wb52ctr_prog_13_method_1_code_c9 12 rfl rfl
theorem wcd_md_267 : decode prog_13_method_1_code 267 = .ok (.iconst 4, 1) := wt_op7 wb52ctr_prog_13_method_1_code_c9 13 rfl rfl
theorem wcd_md_268 : decode prog_13_method_1_code 268 = .ok (.bipush 108, 2) := wt_op16 wb52ctr_prog_13_method_1_code_c9 14 rfl rfl rfl
theorem wcd_md_270 : decode prog_13_method_1_code 270 = .ok (.multianewarray 80 2, 4) := by decide +kernel
theorem wcd_md_274 : decode prog_13_method_1_code 274 = .ok (.putfield 106, 3) := wt_op181 wb52ctr_prog_13_method_1_code_c9 20 rfl rfl rfl
theorem wcd_md_277 : decode prog_13_method_1_code 277 = .ok (.aload_n 0, 1) := wt_op42 wb52ctr_prog_13_method_1_code_c9 23 rfl rfl
theorem wcd_md_278 : decode prog_13_method_1_code 278 = .ok (.iconst 3, 1) := wt_op6 wb52ctr_prog_13_method_1_code_c9 24 rfl rfl
theorem wcd_md_279 : decode prog_13_method_1_code 279 = .ok (.sipush 1158, 3) := wt_op17 wb52ctr_prog_13_method_1_code_c9 25 rfl rfl rfl
theorem wcd_md_282 : decode prog_13_method_1_code 282 = .ok (.multianewarray 80 2, 4) := by decide +kernel
theorem wcd_md_286 : decode prog_13_method_1_code 286 = .ok (.putfield 109, 3) := wt_op181 wb52ctr_prog_13_method_1_code_c10 4 rfl rfl rfl
theorem wcd_md_289 : decode prog_13_method_1_code 289 = .ok (.aload_n 0, 1) := wt_op42 wb52ctr_prog_13_method_1_code_c10 7 rfl rfl
theorem wcd_md_290 : decode prog_13_method_1_code 290 = .ok (.sipush 338, 3) := wt_op17 wb52ctr_prog_13_method_1_code_c10 8 rfl rfl rfl
theorem wcd_md_293 : decode prog_13_method_1_code 293 = .ok (.newarray .int, 2) := wt_op188 wb52ctr_prog_13_method_1_code_c10 11 rfl rfl
theorem wcd_md_295 : decode prog_13_method_1_code 295 = .ok (.putfield 112, 3) := wt_op181 wb52ctr_prog_13_method_1_code_c10 13 rfl rfl rfl
theorem wcd_md_298 : decode prog_13_method_1_code 298 = .ok (.aload_n 0, 1) := wt_op42 wb52ctr_prog_13_method_1_code_c10 16 rfl rfl
theorem wcd_md_299 : decode prog_13_method_1_code 299 = .ok (.bipush 26, 2) := wt_op16 wb52ctr_prog_13_method_1_code_c10 17 rfl rfl rfl
theorem wcd_md_301 : decode prog_13_method_1_code 301 = .ok (.newarray .int, 2) := wt_op188 wb52ctr_prog_13_method_1_code_c10 19 rfl rfl
theorem wcd_md_303 : decode prog_13_method_1_code 303 = .ok (.putfield 115, 3) := wt_op181 wb52ctr_prog_13_method_1_code_c10 21 rfl rfl rfl
theorem wcd_md_306 : decode prog_13_method_1_code 306 = .ok (.aload_n 0, 1) := wt_op42 wb52ctr_prog_13_method_1_code_c10 24 rfl rfl
theorem wcd_md_307 : decode prog_13_method_1_code 307 = .ok (.bipush 108, 2) := wt_op16 wb52ctr_prog_13_method_1_code_c10 25 rfl rfl rfl
theorem wcd_md_309 : decode prog_13_method_1_code 309 = .ok (.newarray .int, 2) := wt_op188 wb52ctr_prog_13_method_1_code_c10 27 rfl rfl
theorem wcd_md_311 : decode prog_13_method_1_code 311 = .ok (.putfield 118, 3) := wt_op181 wb52ctr_prog_13_method_1_code_c11 0 rfl rfl rfl
theorem wcd_md_314 : decode prog_13_method_1_code 314 = .ok (.aload_n 0, 1) := wt_op42 wb52ctr_prog_13_method_1_code_c11 3 rfl rfl
theorem wcd_md_315 : decode prog_13_method_1_code 315 = .ok (.bipush 9, 2) := wt_op16 wb52ctr_prog_13_method_1_code_c11 4 rfl rfl rfl
theorem wcd_md_317 : decode prog_13_method_1_code 317 = .ok (.newarray .int, 2) := wt_op188 wb52ctr_prog_13_method_1_code_c11 6 rfl rfl
theorem wcd_md_319 : decode prog_13_method_1_code 319 = .ok (.putfield 121, 3) := wt_op181 wb52ctr_prog_13_method_1_code_c11 8 rfl rfl rfl
theorem wcd_md_322 : decode prog_13_method_1_code 322 = .ok (.aload_n 0, 1) := wt_op42 wb52ctr_prog_13_method_1_code_c11 11 rfl rfl
theorem wcd_md_323 : decode prog_13_method_1_code 323 = .ok (.bipush 26, 2) := wt_op16 wb52ctr_prog_13_method_1_code_c11 12 rfl rfl rfl
theorem wcd_md_325 : decode prog_13_method_1_code 325 = .ok (.newarray .int, 2) := wt_op188 wb52ctr_prog_13_method_1_code_c11 14 rfl rfl
theorem wcd_md_327 : decode prog_13_method_1_code 327 = .ok (.putfield 124, 3) := wt_op181 wb52ctr_prog_13_method_1_code_c11 16 rfl rfl rfl
theorem wcd_md_330 : decode prog_13_method_1_code 330 = .ok (.aload_n 0, 1) := wt_op42 wb52ctr_prog_13_method_1_code_c11 19 rfl rfl
theorem wcd_md_331 : decode prog_13_method_1_code 331 = .ok (.bipush 12, 2) := wt_op16 wb52ctr_prog_13_method_1_code_c11 20 rfl rfl rfl
theorem wcd_md_333 : decode prog_13_method_1_code 333 = .ok (.bipush 60, 2) := wt_op16 wb52ctr_prog_13_method_1_code_c11 22 rfl rfl rfl
theorem wcd_md_335 : decode prog_13_method_1_code 335 = .ok (.multianewarray 80 2, 4) := by decide +kernel
theorem wcd_md_339 : decode prog_13_method_1_code 339 = .ok (.putfield 127, 3) := wt_op181 wb52ctr_prog_13_method_1_code_c12 0 rfl rfl rfl
theorem wcd_md_342 : decode prog_13_method_1_code 342 = .ok (.aload_n 0, 1) := wt_op42 wb52ctr_prog_13_method_1_code_c12 3 rfl rfl
theorem wcd_md_343 : decode prog_13_method_1_code 343 = .ok (.bipush 12, 2) := wt_op16 wb52ctr_prog_13_method_1_code_c12 4 rfl rfl rfl
theorem wcd_md_345 : decode prog_13_method_1_code 345 = .ok (.bipush 60, 2) := wt_op16 wb52ctr_prog_13_method_1_code_c12 6 rfl rfl rfl
theorem wcd_md_347 : decode prog_13_method_1_code 347 = .ok (.multianewarray 80 2, 4) := by decide +kernel
theorem wcd_md_351 : decode prog_13_method_1_code 351 = .ok (.putfield 130, 3) := wt_op181 wb52ctr_prog_13_method_1_code_c12 12 rfl rfl rfl
theorem wcd_md_354 : decode prog_13_method_1_code 354 = .ok (.aload_n 0, 1) := wt_op42 wb52ctr_prog_13_method_1_code_c12 15 rfl rfl
theorem wcd_md_355 : decode prog_13_method_1_code 355 = .ok (.bipush 12, 2) := wt_op16 wb52ctr_prog_13_method_1_code_c12 16 rfl rfl rfl
theorem wcd_md_357 : decode prog_13_method_1_code 357 = .ok (.newarray .int, 2) := wt_op188 wb52ctr_prog_13_method_1_code_c12 18 rfl rfl
theorem wcd_md_359 : decode prog_13_method_1_code 359 = .ok (.putfield 133, 3) := wt_op181 wb52ctr_prog_13_method_1_code_c12 20 rfl rfl rfl
theorem wcd_md_362 : decode prog_13_method_1_code 362 = .ok (.aload_n 0, 1) := wt_op42 wb52ctr_prog_13_method_1_code_c12 23 rfl rfl
theorem wcd_md_363 : decode prog_13_method_1_code 363 = .ok (.bipush 12, 2) := wt_op16 wb52ctr_prog_13_method_1_code_c12 24 rfl rfl rfl
theorem wcd_md_365 : decode prog_13_method_1_code 365 = .ok (.newarray .int, 2) := wt_op188 wb52ctr_prog_13_method_1_code_c12 26 rfl rfl
theorem wcd_md_367 : decode prog_13_method_1_code 367 = .ok (.putfield 136, 3) := wt_op181 wb52ctr_prog_13_method_1_code_c13 0 rfl rfl rfl
theorem wcd_md_370 : decode prog_13_method_1_code 370 = .ok (.aload_n 0, 1) := wt_op42 wb52ctr_prog_13_method_1_code_c13 3 rfl rfl
theorem wcd_md_371 : decode prog_13_method_1_code 371 = .ok (.bipush 12, 2) := wt_op16 wb52ctr_prog_13_method_1_code_c13 4 rfl rfl rfl
theorem wcd_md_373 : decode prog_13_method_1_code 373 = .ok (.newarray .int, 2) := wt_op188 wb52ctr_prog_13_method_1_code_c13 6 rfl rfl
theorem wcd_md_375 : decode prog_13_method_1_code 375 = .ok (.putfield 139, 3) := wt_op181 wb52ctr_prog_13_method_1_code_c13 8 rfl rfl rfl
theorem wcd_md_378 : decode prog_13_method_1_code 378 = .ok (.aload_n 0, 1) := wt_op42 wb52ctr_prog_13_method_1_code_c13 11 rfl rfl
theorem wcd_md_379 : decode prog_13_method_1_code 379 = .ok (.bipush 10, 2) := wt_op16 wb52ctr_prog_13_method_1_code_c13 12 rfl rfl rfl
theorem wcd_md_381 : decode prog_13_method_1_code 381 = .ok (.newarray .int, 2) := wt_op188 wb52ctr_prog_13_method_1_code_c13 14 rfl rfl
theorem wcd_md_383 : decode prog_13_method_1_code 383 = .ok (.putfield 142, 3) := wt_op181 wb52ctr_prog_13_method_1_code_c13 16 rfl rfl rfl
theorem wcd_md_386 : decode prog_13_method_1_code 386 = .ok (.aload_n 0, 1) := wt_op42 wb52ctr_prog_13_method_1_code_c13 19 rfl rfl
theorem wcd_md_387 : decode prog_13_method_1_code 387 = .ok (.invokevirtual 145, 3) := wt_op182 wb52ctr_prog_13_method_1_code_c13 20 rfl rfl rfl
theorem wcd_md_390 : decode prog_13_method_1_code 390 = .ok (.aload_n 0, 1) := wt_op42 wb52ctr_prog_13_method_1_code_c13 23 rfl rfl
theorem wcd_md_391 : decode prog_13_method_1_code 391 = .ok (.invokevirtual 148, 3) := wt_op182 wb52ctr_prog_13_method_1_code_c13 24 rfl rfl rfl
theorem wcd_md_394 : decode prog_13_method_1_code 394 = .ok (.iconst 0, 1) := wt_op3 wb52ctr_prog_13_method_1_code_c13 27 rfl rfl
theorem wcd_md_395 : decode prog_13_method_1_code 395 = .ok (.istore_n 1, 1) := wt_op60 wb52ctr_prog_13_method_1_code_c14 0 rfl rfl
theorem wcd_md_396 : decode prog_13_method_1_code 396 = .ok (.iload_n 1, 1) := wt_op27 wb52ctr_prog_13_method_1_code_c14 1 rfl rfl
theorem wcd_md_397 : decode prog_13_method_1_code 397 = .ok (.iconst 4, 1) := wt_op7 wb52ctr_prog_13_method_1_code_c14 2 rfl rfl
theorem wcd_md_398 : decode prog_13_method_1_code 398 = .ok (.if_icmp .ge 16, 3) := wt_op162 wb52ctr_prog_13_method_1_code_c14 3 rfl rfl rfl
theorem wcd_md_401 : decode prog_13_method_1_code 401 = .ok (.aload_n 0, 1) := wt_op42 wb52ctr_prog_13_method_1_code_c14 6 rfl rfl
theorem wcd_md_402 : decode prog_13_method_1_code 402 = .ok (.getfield 100, 3) := wt_op180 wb52ctr_prog_13_method_1_code_c14 7 rfl rfl rfl
theorem wcd_md_405 : decode prog_13_method_1_code 405 = .ok (.iload_n 1, 1) := wt_op27 wb52ctr_prog_13_method_1_code_c14 10 rfl rfl
theorem wcd_md_406 : decode prog_13_method_1_code 406 = .ok (.iconst (-1), 1) := wt_op2 wb52ctr_prog_13_method_1_code_c14 11 rfl rfl
theorem wcd_md_407 : decode prog_13_method_1_code 407 = .ok (.iastore, 1) := wt_op79 wb52ctr_prog_13_method_1_code_c14 12 rfl rfl
theorem wcd_md_408 : decode prog_13_method_1_code 408 = .ok (.iinc 1 1, 3) := wt_op132 wb52ctr_prog_13_method_1_code_c14 13 rfl rfl rfl
theorem wcd_md_411 : decode prog_13_method_1_code 411 = .ok (.goto (-15), 3) := wt_op167 wb52ctr_prog_13_method_1_code_c14 16 rfl rfl rfl
theorem wcd_md_414 : decode prog_13_method_1_code 414 = .ok (.return_, 1) := wt_op177 wb52ctr_prog_13_method_1_code_c14 19 rfl rfl
set_option maxRecDepth 100000 in
set_option maxHeartbeats 4000000 in
theorem wc_md_108_z {n : Nat} {σ : wt_St} {σ1 : wt_St} {σ2 : wt_St} (hz0 : wt_zero σ 109) (hc_0 : wp_md_clearsCase n (wt_sf σ 108 3 (-1 : Int32)) = some σ1) (hf_1 : ∀ i, ¬ (108 ≤ i ∧ i < 321) → (∀ q, wt_gf σ1 i q = wt_gf (wt_sf σ 108 3 (-1 : Int32)) i q) ∧ ∀ q, wt_ga σ1 i q = wt_ga (wt_sf σ 108 3 (-1 : Int32)) i q) (hc_2 : wp_md_takesCase n σ1 = some σ2) (hf_3 : ∀ i, ¬ (108 ≤ i ∧ i < 321) → (∀ q, wt_gf σ2 i q = wt_gf σ1 i q) ∧ ∀ q, wt_ga σ2 i q = wt_ga σ1 i q) : wt_zero (wt_sa (wt_sa (wt_sa (wt_sa σ2 275 ((0 : Int32)).toNatClampNeg (-1 : Int32)) 275 ((1 : Int32)).toNatClampNeg (-1 : Int32)) 275 ((2 : Int32)).toNatClampNeg (-1 : Int32)) 275 ((3 : Int32)).toNatClampNeg (-1 : Int32)) 321 := by
  have hz1 : wt_zero (wt_sf σ 108 3 (-1 : Int32)) 109 := (hz0.mono (by decide)).sf (by decide)
  have hz2 : wt_zero σ1 321 := (hz1.mono (by decide)).fr (fun i hi => hf_1 i (by omega))
  have hz3 : wt_zero σ2 321 := (hz2.mono (by decide)).fr (fun i hi => hf_3 i (by omega))
  have hz4 : wt_zero (wt_sa σ2 275 ((0 : Int32)).toNatClampNeg (-1 : Int32)) 321 := (hz3.mono (by decide)).sa (by decide)
  have hz5 : wt_zero (wt_sa (wt_sa σ2 275 ((0 : Int32)).toNatClampNeg (-1 : Int32)) 275 ((1 : Int32)).toNatClampNeg (-1 : Int32)) 321 := (hz4.mono (by decide)).sa (by decide)
  have hz6 : wt_zero (wt_sa (wt_sa (wt_sa σ2 275 ((0 : Int32)).toNatClampNeg (-1 : Int32)) 275 ((1 : Int32)).toNatClampNeg (-1 : Int32)) 275 ((2 : Int32)).toNatClampNeg (-1 : Int32)) 321 := (hz5.mono (by decide)).sa (by decide)
  have hz7 : wt_zero (wt_sa (wt_sa (wt_sa (wt_sa σ2 275 ((0 : Int32)).toNatClampNeg (-1 : Int32)) 275 ((1 : Int32)).toNatClampNeg (-1 : Int32)) 275 ((2 : Int32)).toNatClampNeg (-1 : Int32)) 275 ((3 : Int32)).toNatClampNeg (-1 : Int32)) 321 := (hz6.mono (by decide)).sa (by decide)
  exact hz7.mono (by decide)
set_option maxRecDepth 100000 in
set_option maxHeartbeats 40000000 in
theorem wc_md_108 {l : Launch} {w : wt_E} {n : Nat} {σ : wt_St} {σ1 : wt_St} {σ2 : wt_St} (hdm : ∀ i, wt_dom w i ↔ i < 109) (hz0 : wt_zero σ 109) (hc_0 : wp_md_clearsCase n (wt_sf σ 108 3 (-1 : Int32)) = some σ1) (hf_1 : ∀ i, ¬ (108 ≤ i ∧ i < 321) → (∀ q, wt_gf σ1 i q = wt_gf (wt_sf σ 108 3 (-1 : Int32)) i q) ∧ ∀ q, wt_ga σ1 i q = wt_ga (wt_sf σ 108 3 (-1 : Int32)) i q) (hc_2 : wp_md_takesCase n σ1 = some σ2) (hf_3 : ∀ i, ¬ (108 ≤ i ∧ i < 321) → (∀ q, wt_gf σ2 i q = wt_gf σ1 i q) ∧ ∀ q, wt_ga σ2 i q = wt_ga σ1 i q) : wt_CtrB wt_SA l w wt_y_md_init prog_13_method_1_code 2 1 630 [.inr 108] 109 321 [] [] σ (wt_sa (wt_sa (wt_sa (wt_sa σ2 275 ((0 : Int32)).toNatClampNeg (-1 : Int32)) 275 ((1 : Int32)).toNatClampNeg (-1 : Int32)) 275 ((2 : Int32)).toNatClampNeg (-1 : Int32)) 275 ((3 : Int32)).toNatClampNeg (-1 : Int32)) := by
  have hz1 : wt_zero (wt_sf σ 108 3 (-1 : Int32)) 109 := (hz0.mono (by decide)).sf (by decide)
  have hz2 : wt_zero σ1 321 := (hz1.mono (by decide)).fr (fun i hi => hf_1 i (by omega))
  have hz3 : wt_zero σ2 321 := (hz2.mono (by decide)).fr (fun i hi => hf_3 i (by omega))
  have hz4 : wt_zero (wt_sa σ2 275 ((0 : Int32)).toNatClampNeg (-1 : Int32)) 321 := (hz3.mono (by decide)).sa (by decide)
  have hz5 : wt_zero (wt_sa (wt_sa σ2 275 ((0 : Int32)).toNatClampNeg (-1 : Int32)) 275 ((1 : Int32)).toNatClampNeg (-1 : Int32)) 321 := (hz4.mono (by decide)).sa (by decide)
  have hz6 : wt_zero (wt_sa (wt_sa (wt_sa σ2 275 ((0 : Int32)).toNatClampNeg (-1 : Int32)) 275 ((1 : Int32)).toNatClampNeg (-1 : Int32)) 275 ((2 : Int32)).toNatClampNeg (-1 : Int32)) 321 := (hz5.mono (by decide)).sa (by decide)
  have hz7 : wt_zero (wt_sa (wt_sa (wt_sa (wt_sa σ2 275 ((0 : Int32)).toNatClampNeg (-1 : Int32)) 275 ((1 : Int32)).toNatClampNeg (-1 : Int32)) 275 ((2 : Int32)).toNatClampNeg (-1 : Int32)) 275 ((3 : Int32)).toNatClampNeg (-1 : Int32)) 321 := (hz6.mono (by decide)).sa (by decide)
  refine wt_ctrB hdm hz0 wt_pl_md_init rfl (Nat.le_of_ble_eq_true rfl) [some (.inr 108), none] rfl ?_
  intro X hXl hXw hE hR hSA
  subst hXl
  subst hXw
  have hE : wt_Ok X prog_13_method_1_code 2 "WornTypeModel" 1 630 := hE
  refine wt_bn_aload_n hE wcd_md_0 rfl ?_
  refine wt_bn_obj hE (wt_g6 198 rfl rfl) (wt_g1 31 rfl rfl) (wt_g1 32 rfl rfl) (by omega) (by decide) wcd_md_1 ?_
  refine wt_bn_aload_n hE wcd_md_4 rfl ?_
  refine wt_bn_iconst hE (-1 : Int32) wcd_md_5 wt_ci_m1 ?_
  refine wt_bn_puti (kf := 3) hE wt_cf11 rfl (by decide) rfl rfl (wt_g6 211 rfl rfl) rfl wt_L108 rfl (by decide) wcd_md_6 ?_
  refine wt_bn_aload_n hE wcd_md_9 rfl ?_
  refine wt_bn_sipush hE (500 : Int32) wcd_md_10 wt_cs_500 ?_
  refine wt_bn_newarr (N := 500) hE [(108, 8)] (wt_g1 69 rfl rfl) wt_L109 wt_cn_500.1 wt_cn_500.2 (Nat.le_of_ble_eq_true rfl) (by decide +kernel) rfl rfl (Nat.le_of_ble_eq_true rfl) (Nat.le_of_ble_eq_true rfl) wcd_md_13 ?_
  refine wt_bn_putr (kf := 8) hE [] hR.2.1 wt_cf11 rfl (Nat.le_of_ble_eq_true rfl) rfl rfl (wt_g6 216 rfl rfl) (fun _ => rfl) (fun _ => rfl) wt_L108 rfl (Nat.le_of_ble_eq_true rfl) (Nat.le_of_ble_eq_true rfl) (by decide +kernel) wcd_md_15 ?_
  refine wt_bn_aload_n hE wcd_md_18 rfl ?_
  refine wt_bn_bipush hE (26 : Int32) wcd_md_19 wt_cb_26 ?_
  refine wt_bn_newarr (N := 26) hE [(108, 9)] (wt_g1 69 rfl rfl) wt_L110 wt_cn_26.1 wt_cn_26.2 (Nat.le_of_ble_eq_true rfl) (by decide +kernel) rfl rfl (Nat.le_of_ble_eq_true rfl) (Nat.le_of_ble_eq_true rfl) wcd_md_21 ?_
  refine wt_bn_putr (kf := 9) hE [] hR.2.1 wt_cf11 rfl (Nat.le_of_ble_eq_true rfl) rfl rfl (wt_g6 217 rfl rfl) (fun _ => rfl) (fun _ => rfl) wt_L108 rfl (Nat.le_of_ble_eq_true rfl) (Nat.le_of_ble_eq_true rfl) (by decide +kernel) wcd_md_23 ?_
  refine wt_bn_aload_n hE wcd_md_26 rfl ?_
  refine wt_bn_bipush hE (26 : Int32) wcd_md_27 wt_cb_26 ?_
  refine wt_bn_newarr (N := 26) hE [(108, 10)] (wt_g1 69 rfl rfl) wt_L111 wt_cn_26.1 wt_cn_26.2 (Nat.le_of_ble_eq_true rfl) (by decide +kernel) rfl rfl (Nat.le_of_ble_eq_true rfl) (Nat.le_of_ble_eq_true rfl) wcd_md_29 ?_
  refine wt_bn_putr (kf := 10) hE [] hR.2.1 wt_cf11 rfl (Nat.le_of_ble_eq_true rfl) rfl rfl (wt_g6 218 rfl rfl) (fun _ => rfl) (fun _ => rfl) wt_L108 rfl (Nat.le_of_ble_eq_true rfl) (Nat.le_of_ble_eq_true rfl) (by decide +kernel) wcd_md_31 ?_
  refine wt_bn_aload_n hE wcd_md_34 rfl ?_
  refine wt_bn_bipush hE (26 : Int32) wcd_md_35 wt_cb_26 ?_
  refine wt_bn_newarr (N := 26) hE [(108, 11)] (wt_g1 69 rfl rfl) wt_L112 wt_cn_26.1 wt_cn_26.2 (Nat.le_of_ble_eq_true rfl) (by decide +kernel) rfl rfl (Nat.le_of_ble_eq_true rfl) (Nat.le_of_ble_eq_true rfl) wcd_md_37 ?_
  refine wt_bn_putr (kf := 11) hE [] hR.2.1 wt_cf11 rfl (Nat.le_of_ble_eq_true rfl) rfl rfl (wt_g6 219 rfl rfl) (fun _ => rfl) (fun _ => rfl) wt_L108 rfl (Nat.le_of_ble_eq_true rfl) (Nat.le_of_ble_eq_true rfl) (by decide +kernel) wcd_md_39 ?_
  refine wt_bn_aload_n hE wcd_md_42 rfl ?_
  refine wt_bn_bipush hE (26 : Int32) wcd_md_43 wt_cb_26 ?_
  refine wt_bn_newarr (N := 26) hE [(108, 12)] (wt_g1 69 rfl rfl) wt_L113 wt_cn_26.1 wt_cn_26.2 (Nat.le_of_ble_eq_true rfl) (by decide +kernel) rfl rfl (Nat.le_of_ble_eq_true rfl) (Nat.le_of_ble_eq_true rfl) wcd_md_45 ?_
  refine wt_bn_putr (kf := 12) hE [] hR.2.1 wt_cf11 rfl (Nat.le_of_ble_eq_true rfl) rfl rfl (wt_g6 220 rfl rfl) (fun _ => rfl) (fun _ => rfl) wt_L108 rfl (Nat.le_of_ble_eq_true rfl) (Nat.le_of_ble_eq_true rfl) (by decide +kernel) wcd_md_47 ?_
  refine wt_bn_aload_n hE wcd_md_50 rfl ?_
  refine wt_bn_bipush hE (26 : Int32) wcd_md_51 wt_cb_26 ?_
  refine wt_bn_newarr (N := 26) hE [(108, 13)] (wt_g1 69 rfl rfl) wt_L114 wt_cn_26.1 wt_cn_26.2 (Nat.le_of_ble_eq_true rfl) (by decide +kernel) rfl rfl (Nat.le_of_ble_eq_true rfl) (Nat.le_of_ble_eq_true rfl) wcd_md_53 ?_
  refine wt_bn_putr (kf := 13) hE [] hR.2.1 wt_cf11 rfl (Nat.le_of_ble_eq_true rfl) rfl rfl (wt_g6 221 rfl rfl) (fun _ => rfl) (fun _ => rfl) wt_L108 rfl (Nat.le_of_ble_eq_true rfl) (Nat.le_of_ble_eq_true rfl) (by decide +kernel) wcd_md_55 ?_
  refine wt_bn_aload_n hE wcd_md_58 rfl ?_
  refine wt_bn_bipush hE (26 : Int32) wcd_md_59 wt_cb_26 ?_
  refine wt_bn_newarr (N := 26) hE [(108, 14)] (wt_g1 69 rfl rfl) wt_L115 wt_cn_26.1 wt_cn_26.2 (Nat.le_of_ble_eq_true rfl) (by decide +kernel) rfl rfl (Nat.le_of_ble_eq_true rfl) (Nat.le_of_ble_eq_true rfl) wcd_md_61 ?_
  refine wt_bn_putr (kf := 14) hE [] hR.2.1 wt_cf11 rfl (Nat.le_of_ble_eq_true rfl) rfl rfl (wt_g6 222 rfl rfl) (fun _ => rfl) (fun _ => rfl) wt_L108 rfl (Nat.le_of_ble_eq_true rfl) (Nat.le_of_ble_eq_true rfl) (by decide +kernel) wcd_md_63 ?_
  refine wt_bn_aload_n hE wcd_md_66 rfl ?_
  refine wt_bn_bipush hE (26 : Int32) wcd_md_67 wt_cb_26 ?_
  refine wt_bn_newarr (N := 26) hE [(108, 15)] (wt_g1 69 rfl rfl) wt_L116 wt_cn_26.1 wt_cn_26.2 (Nat.le_of_ble_eq_true rfl) (by decide +kernel) rfl rfl (Nat.le_of_ble_eq_true rfl) (Nat.le_of_ble_eq_true rfl) wcd_md_69 ?_
  refine wt_bn_putr (kf := 15) hE [] hR.2.1 wt_cf11 rfl (Nat.le_of_ble_eq_true rfl) rfl rfl (wt_g6 223 rfl rfl) (fun _ => rfl) (fun _ => rfl) wt_L108 rfl (Nat.le_of_ble_eq_true rfl) (Nat.le_of_ble_eq_true rfl) (by decide +kernel) wcd_md_71 ?_
  refine wt_bn_aload_n hE wcd_md_74 rfl ?_
  refine wt_bn_bipush hE (26 : Int32) wcd_md_75 wt_cb_26 ?_
  refine wt_bn_newarr (N := 26) hE [(108, 16)] (wt_g1 69 rfl rfl) wt_L117 wt_cn_26.1 wt_cn_26.2 (Nat.le_of_ble_eq_true rfl) (by decide +kernel) rfl rfl (Nat.le_of_ble_eq_true rfl) (Nat.le_of_ble_eq_true rfl) wcd_md_77 ?_
  refine wt_bn_putr (kf := 16) hE [] hR.2.1 wt_cf11 rfl (Nat.le_of_ble_eq_true rfl) rfl rfl (wt_g6 224 rfl rfl) (fun _ => rfl) (fun _ => rfl) wt_L108 rfl (Nat.le_of_ble_eq_true rfl) (Nat.le_of_ble_eq_true rfl) (by decide +kernel) wcd_md_79 ?_
  refine wt_bn_aload_n hE wcd_md_82 rfl ?_
  refine wt_bn_iconst hE (4 : Int32) wcd_md_83 wt_ci_4 ?_
  refine wt_bn_newarr (N := 4) hE [(108, 17)] (wt_g1 69 rfl rfl) wt_L118 wt_cn_4.1 wt_cn_4.2 (Nat.le_of_ble_eq_true rfl) (by decide +kernel) rfl rfl (Nat.le_of_ble_eq_true rfl) (Nat.le_of_ble_eq_true rfl) wcd_md_84 ?_
  refine wt_bn_putr (kf := 17) hE [] hR.2.1 wt_cf11 rfl (Nat.le_of_ble_eq_true rfl) rfl rfl (wt_g6 225 rfl rfl) (fun _ => rfl) (fun _ => rfl) wt_L108 rfl (Nat.le_of_ble_eq_true rfl) (Nat.le_of_ble_eq_true rfl) (by decide +kernel) wcd_md_86 ?_
  refine wt_bn_aload_n hE wcd_md_89 rfl ?_
  refine wt_bn_iconst hE (4 : Int32) wcd_md_90 wt_ci_4 ?_
  refine wt_bn_newarr (N := 4) hE [(108, 18)] (wt_g1 69 rfl rfl) wt_L119 wt_cn_4.1 wt_cn_4.2 (Nat.le_of_ble_eq_true rfl) (by decide +kernel) rfl rfl (Nat.le_of_ble_eq_true rfl) (Nat.le_of_ble_eq_true rfl) wcd_md_91 ?_
  refine wt_bn_putr (kf := 18) hE [] hR.2.1 wt_cf11 rfl (Nat.le_of_ble_eq_true rfl) rfl rfl (wt_g6 226 rfl rfl) (fun _ => rfl) (fun _ => rfl) wt_L108 rfl (Nat.le_of_ble_eq_true rfl) (Nat.le_of_ble_eq_true rfl) (by decide +kernel) wcd_md_93 ?_
  refine wt_bn_aload_n hE wcd_md_96 rfl ?_
  refine wt_bn_sipush hE (338 : Int32) wcd_md_97 wt_cs_338 ?_
  refine wt_bn_newarr (N := 338) hE [(108, 19)] (wt_g1 69 rfl rfl) wt_L120 wt_cn_338.1 wt_cn_338.2 (Nat.le_of_ble_eq_true rfl) (by decide +kernel) rfl rfl (Nat.le_of_ble_eq_true rfl) (Nat.le_of_ble_eq_true rfl) wcd_md_100 ?_
  refine wt_bn_putr (kf := 19) hE [] hR.2.1 wt_cf11 rfl (Nat.le_of_ble_eq_true rfl) rfl rfl (wt_g6 227 rfl rfl) (fun _ => rfl) (fun _ => rfl) wt_L108 rfl (Nat.le_of_ble_eq_true rfl) (Nat.le_of_ble_eq_true rfl) (by decide +kernel) wcd_md_102 ?_
  refine wt_bn_aload_n hE wcd_md_105 rfl ?_
  refine wt_bn_sipush hE (338 : Int32) wcd_md_106 wt_cs_338 ?_
  refine wt_bn_newarr (N := 338) hE [(108, 20)] (wt_g1 69 rfl rfl) wt_L121 wt_cn_338.1 wt_cn_338.2 (Nat.le_of_ble_eq_true rfl) (by decide +kernel) rfl rfl (Nat.le_of_ble_eq_true rfl) (Nat.le_of_ble_eq_true rfl) wcd_md_109 ?_
  refine wt_bn_putr (kf := 20) hE [] hR.2.1 wt_cf11 rfl (Nat.le_of_ble_eq_true rfl) rfl rfl (wt_g6 228 rfl rfl) (fun _ => rfl) (fun _ => rfl) wt_L108 rfl (Nat.le_of_ble_eq_true rfl) (Nat.le_of_ble_eq_true rfl) (by decide +kernel) wcd_md_111 ?_
  refine wt_bn_aload_n hE wcd_md_114 rfl ?_
  refine wt_bn_sipush hE (338 : Int32) wcd_md_115 wt_cs_338 ?_
  refine wt_bn_newarr (N := 338) hE [(108, 21)] (wt_g1 69 rfl rfl) wt_L122 wt_cn_338.1 wt_cn_338.2 (Nat.le_of_ble_eq_true rfl) (by decide +kernel) rfl rfl (Nat.le_of_ble_eq_true rfl) (Nat.le_of_ble_eq_true rfl) wcd_md_118 ?_
  refine wt_bn_putr (kf := 21) hE [] hR.2.1 wt_cf11 rfl (Nat.le_of_ble_eq_true rfl) rfl rfl (wt_g6 229 rfl rfl) (fun _ => rfl) (fun _ => rfl) wt_L108 rfl (Nat.le_of_ble_eq_true rfl) (Nat.le_of_ble_eq_true rfl) (by decide +kernel) wcd_md_120 ?_
  refine wt_bn_aload_n hE wcd_md_123 rfl ?_
  refine wt_bn_sipush hE (338 : Int32) wcd_md_124 wt_cs_338 ?_
  refine wt_bn_newarr (N := 338) hE [(108, 22)] (wt_g1 69 rfl rfl) wt_L123 wt_cn_338.1 wt_cn_338.2 (Nat.le_of_ble_eq_true rfl) (by decide +kernel) rfl rfl (Nat.le_of_ble_eq_true rfl) (Nat.le_of_ble_eq_true rfl) wcd_md_127 ?_
  refine wt_bn_putr (kf := 22) hE [] hR.2.1 wt_cf11 rfl (Nat.le_of_ble_eq_true rfl) rfl rfl (wt_g6 230 rfl rfl) (fun _ => rfl) (fun _ => rfl) wt_L108 rfl (Nat.le_of_ble_eq_true rfl) (Nat.le_of_ble_eq_true rfl) (by decide +kernel) wcd_md_129 ?_
  refine wt_bn_aload_n hE wcd_md_132 rfl ?_
  refine wt_bn_sipush hE (338 : Int32) wcd_md_133 wt_cs_338 ?_
  refine wt_bn_newarr (N := 338) hE [(108, 23)] (wt_g1 69 rfl rfl) wt_L124 wt_cn_338.1 wt_cn_338.2 (Nat.le_of_ble_eq_true rfl) (by decide +kernel) rfl rfl (Nat.le_of_ble_eq_true rfl) (Nat.le_of_ble_eq_true rfl) wcd_md_136 ?_
  refine wt_bn_putr (kf := 23) hE [] hR.2.1 wt_cf11 rfl (Nat.le_of_ble_eq_true rfl) rfl rfl (wt_g6 231 rfl rfl) (fun _ => rfl) (fun _ => rfl) wt_L108 rfl (Nat.le_of_ble_eq_true rfl) (Nat.le_of_ble_eq_true rfl) (by decide +kernel) wcd_md_138 ?_
  refine wt_bn_aload_n hE wcd_md_141 rfl ?_
  refine wt_bn_bipush hE (60 : Int32) wcd_md_142 wt_cb_60 ?_
  refine wt_bn_newarr (N := 60) hE [(108, 31)] (wt_g1 69 rfl rfl) wt_L125 wt_cn_60.1 wt_cn_60.2 (Nat.le_of_ble_eq_true rfl) (by decide +kernel) rfl rfl (Nat.le_of_ble_eq_true rfl) (Nat.le_of_ble_eq_true rfl) wcd_md_144 ?_
  refine wt_bn_putr (kf := 31) hE [] hR.2.1 wt_cf11 rfl (Nat.le_of_ble_eq_true rfl) rfl rfl (wt_g6 239 rfl rfl) (fun _ => rfl) (fun _ => rfl) wt_L108 rfl (Nat.le_of_ble_eq_true rfl) (Nat.le_of_ble_eq_true rfl) (by decide +kernel) wcd_md_146 ?_
  refine wt_bn_aload_n hE wcd_md_149 rfl ?_
  refine wt_bn_bipush hE (60 : Int32) wcd_md_150 wt_cb_60 ?_
  refine wt_bn_newarr (N := 60) hE [(108, 32)] (wt_g1 69 rfl rfl) wt_L126 wt_cn_60.1 wt_cn_60.2 (Nat.le_of_ble_eq_true rfl) (by decide +kernel) rfl rfl (Nat.le_of_ble_eq_true rfl) (Nat.le_of_ble_eq_true rfl) wcd_md_152 ?_
  refine wt_bn_putr (kf := 32) hE [] hR.2.1 wt_cf11 rfl (Nat.le_of_ble_eq_true rfl) rfl rfl (wt_g7 0 rfl rfl) (fun _ => rfl) (fun _ => rfl) wt_L108 rfl (Nat.le_of_ble_eq_true rfl) (Nat.le_of_ble_eq_true rfl) (by decide +kernel) wcd_md_154 ?_
  refine wt_bn_aload_n hE wcd_md_157 rfl ?_
  refine wt_bn_bipush hE (60 : Int32) wcd_md_158 wt_cb_60 ?_
  refine wt_bn_newarr (N := 60) hE [(108, 33)] (wt_g1 69 rfl rfl) wt_L127 wt_cn_60.1 wt_cn_60.2 (Nat.le_of_ble_eq_true rfl) (by decide +kernel) rfl rfl (Nat.le_of_ble_eq_true rfl) (Nat.le_of_ble_eq_true rfl) wcd_md_160 ?_
  refine wt_bn_putr (kf := 33) hE [] hR.2.1 wt_cf11 rfl (Nat.le_of_ble_eq_true rfl) rfl rfl (wt_g7 1 rfl rfl) (fun _ => rfl) (fun _ => rfl) wt_L108 rfl (Nat.le_of_ble_eq_true rfl) (Nat.le_of_ble_eq_true rfl) (by decide +kernel) wcd_md_162 ?_
  refine wt_bn_aload_n hE wcd_md_165 rfl ?_
  refine wt_bn_bipush hE (60 : Int32) wcd_md_166 wt_cb_60 ?_
  refine wt_bn_newarr (N := 60) hE [(108, 34)] (wt_g1 69 rfl rfl) wt_L128 wt_cn_60.1 wt_cn_60.2 (Nat.le_of_ble_eq_true rfl) (by decide +kernel) rfl rfl (Nat.le_of_ble_eq_true rfl) (Nat.le_of_ble_eq_true rfl) wcd_md_168 ?_
  refine wt_bn_putr (kf := 34) hE [] hR.2.1 wt_cf11 rfl (Nat.le_of_ble_eq_true rfl) rfl rfl (wt_g7 2 rfl rfl) (fun _ => rfl) (fun _ => rfl) wt_L108 rfl (Nat.le_of_ble_eq_true rfl) (Nat.le_of_ble_eq_true rfl) (by decide +kernel) wcd_md_170 ?_
  refine wt_bn_aload_n hE wcd_md_173 rfl ?_
  refine wt_bn_bipush hE (61 : Int32) wcd_md_174 wt_cb_61 ?_
  refine wt_bn_newarr (N := 61) hE [(108, 35)] (wt_g1 69 rfl rfl) wt_L129 wt_cn_61.1 wt_cn_61.2 (Nat.le_of_ble_eq_true rfl) (by decide +kernel) rfl rfl (Nat.le_of_ble_eq_true rfl) (Nat.le_of_ble_eq_true rfl) wcd_md_176 ?_
  refine wt_bn_putr (kf := 35) hE [] hR.2.1 wt_cf11 rfl (Nat.le_of_ble_eq_true rfl) rfl rfl (wt_g7 3 rfl rfl) (fun _ => rfl) (fun _ => rfl) wt_L108 rfl (Nat.le_of_ble_eq_true rfl) (Nat.le_of_ble_eq_true rfl) (by decide +kernel) wcd_md_178 ?_
  refine wt_bn_aload_n hE wcd_md_181 rfl ?_
  refine wt_bn_bipush hE (61 : Int32) wcd_md_182 wt_cb_61 ?_
  refine wt_bn_newarr (N := 61) hE [(108, 36)] (wt_g1 69 rfl rfl) wt_L130 wt_cn_61.1 wt_cn_61.2 (Nat.le_of_ble_eq_true rfl) (by decide +kernel) rfl rfl (Nat.le_of_ble_eq_true rfl) (Nat.le_of_ble_eq_true rfl) wcd_md_184 ?_
  refine wt_bn_putr (kf := 36) hE [] hR.2.1 wt_cf11 rfl (Nat.le_of_ble_eq_true rfl) rfl rfl (wt_g7 4 rfl rfl) (fun _ => rfl) (fun _ => rfl) wt_L108 rfl (Nat.le_of_ble_eq_true rfl) (Nat.le_of_ble_eq_true rfl) (by decide +kernel) wcd_md_186 ?_
  refine wt_bn_aload_n hE wcd_md_189 rfl ?_
  refine wt_bn_bipush hE (60 : Int32) wcd_md_190 wt_cb_60 ?_
  refine wt_bn_bipush hE (9 : Int32) wcd_md_192 wt_cb_9 ?_
  refine wt_bn_mna (N := 60) (M := 9) hE hSA.2 [(108, 37)] (wt_g6 199 rfl rfl) (wt_g1 69 rfl rfl) wt_L131 (fun i hi => wt_G132 i hi) (by decide) (by decide) (by decide) (by decide) (Nat.le_of_ble_eq_true rfl) (Nat.le_of_ble_eq_true rfl) (by decide +kernel) (Nat.le_of_ble_eq_true rfl) rfl rfl (Nat.le_of_ble_eq_true rfl) (Nat.le_of_ble_eq_true rfl) wcd_md_194 ?_
  refine wt_bn_putr (kf := 37) hE [] hR.2.1 wt_cf11 rfl (Nat.le_of_ble_eq_true rfl) rfl rfl (wt_g7 5 rfl rfl) (fun _ => rfl) (fun _ => rfl) wt_L108 rfl (Nat.le_of_ble_eq_true rfl) (Nat.le_of_ble_eq_true rfl) (by decide +kernel) wcd_md_198 ?_
  refine wt_bn_aload_n hE wcd_md_201 rfl ?_
  refine wt_bn_bipush hE (60 : Int32) wcd_md_202 wt_cb_60 ?_
  refine wt_bn_bipush hE (9 : Int32) wcd_md_204 wt_cb_9 ?_
  refine wt_bn_mna (N := 60) (M := 9) hE hSA.2 [(108, 38)] (wt_g6 199 rfl rfl) (wt_g1 69 rfl rfl) wt_L192 (fun i hi => wt_G193 i hi) (by decide) (by decide) (by decide) (by decide) (Nat.le_of_ble_eq_true rfl) (Nat.le_of_ble_eq_true rfl) (by decide +kernel) (Nat.le_of_ble_eq_true rfl) rfl rfl (Nat.le_of_ble_eq_true rfl) (Nat.le_of_ble_eq_true rfl) wcd_md_206 ?_
  refine wt_bn_putr (kf := 38) hE [] hR.2.1 wt_cf11 rfl (Nat.le_of_ble_eq_true rfl) rfl rfl (wt_g7 6 rfl rfl) (fun _ => rfl) (fun _ => rfl) wt_L108 rfl (Nat.le_of_ble_eq_true rfl) (Nat.le_of_ble_eq_true rfl) (by decide +kernel) wcd_md_210 ?_
  refine wt_bn_aload_n hE wcd_md_213 rfl ?_
  refine wt_bn_bipush hE (8 : Int32) wcd_md_214 wt_cb_8 ?_
  refine wt_bn_newarr (N := 8) hE [(108, 43)] (wt_g1 69 rfl rfl) wt_L253 wt_cn_8.1 wt_cn_8.2 (Nat.le_of_ble_eq_true rfl) (by decide +kernel) rfl rfl (Nat.le_of_ble_eq_true rfl) (Nat.le_of_ble_eq_true rfl) wcd_md_216 ?_
  refine wt_bn_putr (kf := 43) hE [] hR.2.1 wt_cf11 rfl (Nat.le_of_ble_eq_true rfl) rfl rfl (wt_g7 11 rfl rfl) (fun _ => rfl) (fun _ => rfl) wt_L108 rfl (Nat.le_of_ble_eq_true rfl) (Nat.le_of_ble_eq_true rfl) (by decide +kernel) wcd_md_218 ?_
  refine wt_bn_aload_n hE wcd_md_221 rfl ?_
  refine wt_bn_bipush hE (8 : Int32) wcd_md_222 wt_cb_8 ?_
  refine wt_bn_bipush hE (12 : Int32) wcd_md_224 wt_cb_12 ?_
  refine wt_bn_mna (N := 8) (M := 12) hE hSA.2 [(108, 44)] (wt_g6 199 rfl rfl) (wt_g1 69 rfl rfl) wt_L254 (fun i hi => wt_G255 i hi) (by decide) (by decide) (by decide) (by decide) (Nat.le_of_ble_eq_true rfl) (Nat.le_of_ble_eq_true rfl) (by decide +kernel) (Nat.le_of_ble_eq_true rfl) rfl rfl (Nat.le_of_ble_eq_true rfl) (Nat.le_of_ble_eq_true rfl) wcd_md_226 ?_
  refine wt_bn_putr (kf := 44) hE [] hR.2.1 wt_cf11 rfl (Nat.le_of_ble_eq_true rfl) rfl rfl (wt_g7 12 rfl rfl) (fun _ => rfl) (fun _ => rfl) wt_L108 rfl (Nat.le_of_ble_eq_true rfl) (Nat.le_of_ble_eq_true rfl) (by decide +kernel) wcd_md_230 ?_
  refine wt_bn_aload_n hE wcd_md_233 rfl ?_
  refine wt_bn_bipush hE (10 : Int32) wcd_md_234 wt_cb_10 ?_
  refine wt_bn_iconst hE (4 : Int32) wcd_md_236 wt_ci_4 ?_
  refine wt_bn_mna (N := 10) (M := 4) hE hSA.2 [(108, 45)] (wt_g6 199 rfl rfl) (wt_g1 69 rfl rfl) wt_L263 (fun i hi => wt_G264 i hi) (by decide) (by decide) (by decide) (by decide) (Nat.le_of_ble_eq_true rfl) (Nat.le_of_ble_eq_true rfl) (by decide +kernel) (Nat.le_of_ble_eq_true rfl) rfl rfl (Nat.le_of_ble_eq_true rfl) (Nat.le_of_ble_eq_true rfl) wcd_md_237 ?_
  refine wt_bn_putr (kf := 45) hE [] hR.2.1 wt_cf11 rfl (Nat.le_of_ble_eq_true rfl) rfl rfl (wt_g7 13 rfl rfl) (fun _ => rfl) (fun _ => rfl) wt_L108 rfl (Nat.le_of_ble_eq_true rfl) (Nat.le_of_ble_eq_true rfl) (by decide +kernel) wcd_md_241 ?_
  refine wt_bn_aload_n hE wcd_md_244 rfl ?_
  refine wt_bn_bipush hE (12 : Int32) wcd_md_245 wt_cb_12 ?_
  refine wt_bn_newarr (N := 12) hE [(108, 46)] (wt_g1 69 rfl rfl) wt_L274 wt_cn_12.1 wt_cn_12.2 (Nat.le_of_ble_eq_true rfl) (by decide +kernel) rfl rfl (Nat.le_of_ble_eq_true rfl) (Nat.le_of_ble_eq_true rfl) wcd_md_247 ?_
  refine wt_bn_putr (kf := 46) hE [] hR.2.1 wt_cf11 rfl (Nat.le_of_ble_eq_true rfl) rfl rfl (wt_g7 14 rfl rfl) (fun _ => rfl) (fun _ => rfl) wt_L108 rfl (Nat.le_of_ble_eq_true rfl) (Nat.le_of_ble_eq_true rfl) (by decide +kernel) wcd_md_249 ?_
  refine wt_bn_aload_n hE wcd_md_252 rfl ?_
  refine wt_bn_iconst hE (4 : Int32) wcd_md_253 wt_ci_4 ?_
  refine wt_bn_newarr (N := 4) hE [(108, 47)] (wt_g1 69 rfl rfl) wt_L275 wt_cn_4.1 wt_cn_4.2 (Nat.le_of_ble_eq_true rfl) (by decide +kernel) rfl rfl (Nat.le_of_ble_eq_true rfl) (Nat.le_of_ble_eq_true rfl) wcd_md_254 ?_
  refine wt_bn_putr (kf := 47) hE [] hR.2.1 wt_cf11 rfl (Nat.le_of_ble_eq_true rfl) rfl rfl (wt_g7 15 rfl rfl) (fun _ => rfl) (fun _ => rfl) wt_L108 rfl (Nat.le_of_ble_eq_true rfl) (Nat.le_of_ble_eq_true rfl) (by decide +kernel) wcd_md_256 ?_
  refine wt_bn_aload_n hE wcd_md_259 rfl ?_
  refine wt_bn_iconst hE (4 : Int32) wcd_md_260 wt_ci_4 ?_
  refine wt_bn_newarr (N := 4) hE [(108, 48)] (wt_g1 69 rfl rfl) wt_L276 wt_cn_4.1 wt_cn_4.2 (Nat.le_of_ble_eq_true rfl) (by decide +kernel) rfl rfl (Nat.le_of_ble_eq_true rfl) (Nat.le_of_ble_eq_true rfl) wcd_md_261 ?_
  refine wt_bn_putr (kf := 48) hE [] hR.2.1 wt_cf11 rfl (Nat.le_of_ble_eq_true rfl) rfl rfl (wt_g7 16 rfl rfl) (fun _ => rfl) (fun _ => rfl) wt_L108 rfl (Nat.le_of_ble_eq_true rfl) (Nat.le_of_ble_eq_true rfl) (by decide +kernel) wcd_md_263 ?_
  refine wt_bn_aload_n hE wcd_md_266 rfl ?_
  refine wt_bn_iconst hE (4 : Int32) wcd_md_267 wt_ci_4 ?_
  refine wt_bn_bipush hE (108 : Int32) wcd_md_268 wt_cb_108 ?_
  refine wt_bn_mna (N := 4) (M := 108) hE hSA.2 [(108, 49)] (wt_g6 199 rfl rfl) (wt_g1 69 rfl rfl) wt_L277 (fun i hi => wt_G278 i hi) (by decide) (by decide) (by decide) (by decide) (Nat.le_of_ble_eq_true rfl) (Nat.le_of_ble_eq_true rfl) (by decide +kernel) (Nat.le_of_ble_eq_true rfl) rfl rfl (Nat.le_of_ble_eq_true rfl) (Nat.le_of_ble_eq_true rfl) wcd_md_270 ?_
  refine wt_bn_putr (kf := 49) hE [] hR.2.1 wt_cf11 rfl (Nat.le_of_ble_eq_true rfl) rfl rfl (wt_g7 17 rfl rfl) (fun _ => rfl) (fun _ => rfl) wt_L108 rfl (Nat.le_of_ble_eq_true rfl) (Nat.le_of_ble_eq_true rfl) (by decide +kernel) wcd_md_274 ?_
  refine wt_bn_aload_n hE wcd_md_277 rfl ?_
  refine wt_bn_iconst hE (3 : Int32) wcd_md_278 wt_ci_3 ?_
  refine wt_bn_sipush hE (1158 : Int32) wcd_md_279 wt_cs_1158 ?_
  refine wt_bn_mna (N := 3) (M := 1158) hE hSA.2 [(108, 50)] (wt_g6 199 rfl rfl) (wt_g1 69 rfl rfl) wt_L282 (fun i hi => wt_G283 i hi) (by decide) (by decide) (by decide) (by decide) (Nat.le_of_ble_eq_true rfl) (Nat.le_of_ble_eq_true rfl) (by decide +kernel) (Nat.le_of_ble_eq_true rfl) rfl rfl (Nat.le_of_ble_eq_true rfl) (Nat.le_of_ble_eq_true rfl) wcd_md_282 ?_
  refine wt_bn_putr (kf := 50) hE [] hR.2.1 wt_cf11 rfl (Nat.le_of_ble_eq_true rfl) rfl rfl (wt_g7 18 rfl rfl) (fun _ => rfl) (fun _ => rfl) wt_L108 rfl (Nat.le_of_ble_eq_true rfl) (Nat.le_of_ble_eq_true rfl) (by decide +kernel) wcd_md_286 ?_
  refine wt_bn_aload_n hE wcd_md_289 rfl ?_
  refine wt_bn_sipush hE (338 : Int32) wcd_md_290 wt_cs_338 ?_
  refine wt_bn_newarr (N := 338) hE [(108, 51)] (wt_g1 69 rfl rfl) wt_L286 wt_cn_338.1 wt_cn_338.2 (Nat.le_of_ble_eq_true rfl) (by decide +kernel) rfl rfl (Nat.le_of_ble_eq_true rfl) (Nat.le_of_ble_eq_true rfl) wcd_md_293 ?_
  refine wt_bn_putr (kf := 51) hE [] hR.2.1 wt_cf11 rfl (Nat.le_of_ble_eq_true rfl) rfl rfl (wt_g7 19 rfl rfl) (fun _ => rfl) (fun _ => rfl) wt_L108 rfl (Nat.le_of_ble_eq_true rfl) (Nat.le_of_ble_eq_true rfl) (by decide +kernel) wcd_md_295 ?_
  refine wt_bn_aload_n hE wcd_md_298 rfl ?_
  refine wt_bn_bipush hE (26 : Int32) wcd_md_299 wt_cb_26 ?_
  refine wt_bn_newarr (N := 26) hE [(108, 52)] (wt_g1 69 rfl rfl) wt_L287 wt_cn_26.1 wt_cn_26.2 (Nat.le_of_ble_eq_true rfl) (by decide +kernel) rfl rfl (Nat.le_of_ble_eq_true rfl) (Nat.le_of_ble_eq_true rfl) wcd_md_301 ?_
  refine wt_bn_putr (kf := 52) hE [] hR.2.1 wt_cf11 rfl (Nat.le_of_ble_eq_true rfl) rfl rfl (wt_g7 20 rfl rfl) (fun _ => rfl) (fun _ => rfl) wt_L108 rfl (Nat.le_of_ble_eq_true rfl) (Nat.le_of_ble_eq_true rfl) (by decide +kernel) wcd_md_303 ?_
  refine wt_bn_aload_n hE wcd_md_306 rfl ?_
  refine wt_bn_bipush hE (108 : Int32) wcd_md_307 wt_cb_108 ?_
  refine wt_bn_newarr (N := 108) hE [(108, 53)] (wt_g1 69 rfl rfl) wt_L288 wt_cn_108.1 wt_cn_108.2 (Nat.le_of_ble_eq_true rfl) (by decide +kernel) rfl rfl (Nat.le_of_ble_eq_true rfl) (Nat.le_of_ble_eq_true rfl) wcd_md_309 ?_
  refine wt_bn_putr (kf := 53) hE [] hR.2.1 wt_cf11 rfl (Nat.le_of_ble_eq_true rfl) rfl rfl (wt_g7 21 rfl rfl) (fun _ => rfl) (fun _ => rfl) wt_L108 rfl (Nat.le_of_ble_eq_true rfl) (Nat.le_of_ble_eq_true rfl) (by decide +kernel) wcd_md_311 ?_
  refine wt_bn_aload_n hE wcd_md_314 rfl ?_
  refine wt_bn_bipush hE (9 : Int32) wcd_md_315 wt_cb_9 ?_
  refine wt_bn_newarr (N := 9) hE [(108, 55)] (wt_g1 69 rfl rfl) wt_L289 wt_cn_9.1 wt_cn_9.2 (Nat.le_of_ble_eq_true rfl) (by decide +kernel) rfl rfl (Nat.le_of_ble_eq_true rfl) (Nat.le_of_ble_eq_true rfl) wcd_md_317 ?_
  refine wt_bn_putr (kf := 55) hE [] hR.2.1 wt_cf11 rfl (Nat.le_of_ble_eq_true rfl) rfl rfl (wt_g7 23 rfl rfl) (fun _ => rfl) (fun _ => rfl) wt_L108 rfl (Nat.le_of_ble_eq_true rfl) (Nat.le_of_ble_eq_true rfl) (by decide +kernel) wcd_md_319 ?_
  refine wt_bn_aload_n hE wcd_md_322 rfl ?_
  refine wt_bn_bipush hE (26 : Int32) wcd_md_323 wt_cb_26 ?_
  refine wt_bn_newarr (N := 26) hE [(108, 56)] (wt_g1 69 rfl rfl) wt_L290 wt_cn_26.1 wt_cn_26.2 (Nat.le_of_ble_eq_true rfl) (by decide +kernel) rfl rfl (Nat.le_of_ble_eq_true rfl) (Nat.le_of_ble_eq_true rfl) wcd_md_325 ?_
  refine wt_bn_putr (kf := 56) hE [] hR.2.1 wt_cf11 rfl (Nat.le_of_ble_eq_true rfl) rfl rfl (wt_g7 24 rfl rfl) (fun _ => rfl) (fun _ => rfl) wt_L108 rfl (Nat.le_of_ble_eq_true rfl) (Nat.le_of_ble_eq_true rfl) (by decide +kernel) wcd_md_327 ?_
  refine wt_bn_aload_n hE wcd_md_330 rfl ?_
  refine wt_bn_bipush hE (12 : Int32) wcd_md_331 wt_cb_12 ?_
  refine wt_bn_bipush hE (60 : Int32) wcd_md_333 wt_cb_60 ?_
  refine wt_bn_mna (N := 12) (M := 60) hE hSA.2 [(108, 57)] (wt_g6 199 rfl rfl) (wt_g1 69 rfl rfl) wt_L291 (fun i hi => wt_G292 i hi) (by decide) (by decide) (by decide) (by decide) (Nat.le_of_ble_eq_true rfl) (Nat.le_of_ble_eq_true rfl) (by decide +kernel) (Nat.le_of_ble_eq_true rfl) rfl rfl (Nat.le_of_ble_eq_true rfl) (Nat.le_of_ble_eq_true rfl) wcd_md_335 ?_
  refine wt_bn_putr (kf := 57) hE [] hR.2.1 wt_cf11 rfl (Nat.le_of_ble_eq_true rfl) rfl rfl (wt_g7 25 rfl rfl) (fun _ => rfl) (fun _ => rfl) wt_L108 rfl (Nat.le_of_ble_eq_true rfl) (Nat.le_of_ble_eq_true rfl) (by decide +kernel) wcd_md_339 ?_
  refine wt_bn_aload_n hE wcd_md_342 rfl ?_
  refine wt_bn_bipush hE (12 : Int32) wcd_md_343 wt_cb_12 ?_
  refine wt_bn_bipush hE (60 : Int32) wcd_md_345 wt_cb_60 ?_
  refine wt_bn_mna (N := 12) (M := 60) hE hSA.2 [(108, 58)] (wt_g6 199 rfl rfl) (wt_g1 69 rfl rfl) wt_L304 (fun i hi => wt_G305 i hi) (by decide) (by decide) (by decide) (by decide) (Nat.le_of_ble_eq_true rfl) (Nat.le_of_ble_eq_true rfl) (by decide +kernel) (Nat.le_of_ble_eq_true rfl) rfl rfl (Nat.le_of_ble_eq_true rfl) (Nat.le_of_ble_eq_true rfl) wcd_md_347 ?_
  refine wt_bn_putr (kf := 58) hE [] hR.2.1 wt_cf11 rfl (Nat.le_of_ble_eq_true rfl) rfl rfl (wt_g7 26 rfl rfl) (fun _ => rfl) (fun _ => rfl) wt_L108 rfl (Nat.le_of_ble_eq_true rfl) (Nat.le_of_ble_eq_true rfl) (by decide +kernel) wcd_md_351 ?_
  refine wt_bn_aload_n hE wcd_md_354 rfl ?_
  refine wt_bn_bipush hE (12 : Int32) wcd_md_355 wt_cb_12 ?_
  refine wt_bn_newarr (N := 12) hE [(108, 59)] (wt_g1 69 rfl rfl) wt_L317 wt_cn_12.1 wt_cn_12.2 (Nat.le_of_ble_eq_true rfl) (by decide +kernel) rfl rfl (Nat.le_of_ble_eq_true rfl) (Nat.le_of_ble_eq_true rfl) wcd_md_357 ?_
  refine wt_bn_putr (kf := 59) hE [] hR.2.1 wt_cf11 rfl (Nat.le_of_ble_eq_true rfl) rfl rfl (wt_g7 27 rfl rfl) (fun _ => rfl) (fun _ => rfl) wt_L108 rfl (Nat.le_of_ble_eq_true rfl) (Nat.le_of_ble_eq_true rfl) (by decide +kernel) wcd_md_359 ?_
  refine wt_bn_aload_n hE wcd_md_362 rfl ?_
  refine wt_bn_bipush hE (12 : Int32) wcd_md_363 wt_cb_12 ?_
  refine wt_bn_newarr (N := 12) hE [(108, 61)] (wt_g1 69 rfl rfl) wt_L318 wt_cn_12.1 wt_cn_12.2 (Nat.le_of_ble_eq_true rfl) (by decide +kernel) rfl rfl (Nat.le_of_ble_eq_true rfl) (Nat.le_of_ble_eq_true rfl) wcd_md_365 ?_
  refine wt_bn_putr (kf := 61) hE [] hR.2.1 wt_cf11 rfl (Nat.le_of_ble_eq_true rfl) rfl rfl (wt_g7 29 rfl rfl) (fun _ => rfl) (fun _ => rfl) wt_L108 rfl (Nat.le_of_ble_eq_true rfl) (Nat.le_of_ble_eq_true rfl) (by decide +kernel) wcd_md_367 ?_
  refine wt_bn_aload_n hE wcd_md_370 rfl ?_
  refine wt_bn_bipush hE (12 : Int32) wcd_md_371 wt_cb_12 ?_
  refine wt_bn_newarr (N := 12) hE [(108, 62)] (wt_g1 69 rfl rfl) wt_L319 wt_cn_12.1 wt_cn_12.2 (Nat.le_of_ble_eq_true rfl) (by decide +kernel) rfl rfl (Nat.le_of_ble_eq_true rfl) (Nat.le_of_ble_eq_true rfl) wcd_md_373 ?_
  refine wt_bn_putr (kf := 62) hE [] hR.2.1 wt_cf11 rfl (Nat.le_of_ble_eq_true rfl) rfl rfl (wt_g7 30 rfl rfl) (fun _ => rfl) (fun _ => rfl) wt_L108 rfl (Nat.le_of_ble_eq_true rfl) (Nat.le_of_ble_eq_true rfl) (by decide +kernel) wcd_md_375 ?_
  refine wt_bn_aload_n hE wcd_md_378 rfl ?_
  refine wt_bn_bipush hE (10 : Int32) wcd_md_379 wt_cb_10 ?_
  refine wt_bn_newarr (N := 10) hE [(108, 63)] (wt_g1 69 rfl rfl) wt_L320 wt_cn_10.1 wt_cn_10.2 (Nat.le_of_ble_eq_true rfl) (by decide +kernel) rfl rfl (Nat.le_of_ble_eq_true rfl) (Nat.le_of_ble_eq_true rfl) wcd_md_381 ?_
  refine wt_bn_putr (kf := 63) hE [] hR.2.1 wt_cf11 rfl (Nat.le_of_ble_eq_true rfl) rfl rfl (wt_g7 31 rfl rfl) (fun _ => rfl) (fun _ => rfl) wt_L108 rfl (Nat.le_of_ble_eq_true rfl) (Nat.le_of_ble_eq_true rfl) (by decide +kernel) wcd_md_383 ?_
  refine wt_bn_aload_n hE wcd_md_386 rfl ?_
  refine wt_bn_callV hE (fun i => 108 ≤ i ∧ i < 321) (wt_whole_of (by decide +kernel)) wt_lm_md_145 wt_ya_md_clearsCase (As := []) (fun ad => wp_md_clearsCase_ok (w := wt_at (wt_xw X) ad (fun i => 108 ≤ i ∧ i < 321)) (fun i h1 h2 => (⟨h1, h2⟩ : 108 ≤ i ∧ i < 321)) hc_0) (by omega) ⟨by decide, by decide⟩ wt_L108 rfl rfl rfl (by decide) (Nat.le_of_ble_eq_true rfl) hf_1 hz2 (Nat.le_of_ble_eq_true rfl) wcd_md_387 ?_
  refine wt_bn_aload_n hE wcd_md_390 rfl ?_
  refine wt_bn_callV hE (fun i => 108 ≤ i ∧ i < 321) (wt_whole_of (by decide +kernel)) wt_lm_md_148 wt_ya_md_takesCase (As := []) (fun ad => wp_md_takesCase_ok (w := wt_at (wt_xw X) ad (fun i => 108 ≤ i ∧ i < 321)) (fun i h1 h2 => (⟨h1, h2⟩ : 108 ≤ i ∧ i < 321)) hc_2) (by omega) ⟨by decide, by decide⟩ wt_L108 rfl rfl rfl (by decide) (Nat.le_of_ble_eq_true rfl) hf_3 hz3 (Nat.le_of_ble_eq_true rfl) wcd_md_391 ?_
  refine wt_bn_iconst hE (0 : Int32) wcd_md_394 wt_ci_0 ?_
  refine wt_bn_istore_n hE [some (.inr 108), some (.inl (0 : Int32))] wcd_md_395 (by decide) rfl ?_
  refine wt_bn_iload_n hE wcd_md_396 rfl ?_
  refine wt_bn_iconst hE (4 : Int32) wcd_md_397 wt_ci_4 ?_
  refine wt_bn_icmp_geF hE 414 wcd_md_398 rfl (by decide) ?_
  refine wt_bn_aload_n hE wcd_md_401 rfl ?_
  refine wt_bn_getr (kf := 47) hE wt_cf11 rfl (Nat.le_of_ble_eq_true rfl) rfl (wt_g7 15 rfl rfl) wt_L108 rfl (Nat.le_of_ble_eq_true rfl) (by decide +kernel) wcd_md_402 ?_
  refine wt_bn_iload_n hE wcd_md_405 rfl ?_
  refine wt_bn_iconst hE (-1 : Int32) wcd_md_406 wt_ci_m1 ?_
  refine wt_bn_iast hE wt_L275 (by decide) (by unfold vp_in; decide) wcd_md_407 ?_
  refine wt_bn_iinc hE (1 : Int32) [some (.inr 108), some (.inl (1 : Int32))] wcd_md_408 (by decide) rfl (by decide) rfl ?_
  refine wt_bn_goto hE 396 wcd_md_411 rfl ?_
  refine wt_bn_iload_n hE wcd_md_396 rfl ?_
  refine wt_bn_iconst hE (4 : Int32) wcd_md_397 wt_ci_4 ?_
  refine wt_bn_icmp_geF hE 414 wcd_md_398 rfl (by decide) ?_
  refine wt_bn_aload_n hE wcd_md_401 rfl ?_
  refine wt_bn_getr (kf := 47) hE wt_cf11 rfl (Nat.le_of_ble_eq_true rfl) rfl (wt_g7 15 rfl rfl) wt_L108 rfl (Nat.le_of_ble_eq_true rfl) (by decide +kernel) wcd_md_402 ?_
  refine wt_bn_iload_n hE wcd_md_405 rfl ?_
  refine wt_bn_iconst hE (-1 : Int32) wcd_md_406 wt_ci_m1 ?_
  refine wt_bn_iast hE wt_L275 (by decide) (by unfold vp_in; decide) wcd_md_407 ?_
  refine wt_bn_iinc hE (2 : Int32) [some (.inr 108), some (.inl (2 : Int32))] wcd_md_408 (by decide) rfl (by decide) rfl ?_
  refine wt_bn_goto hE 396 wcd_md_411 rfl ?_
  refine wt_bn_iload_n hE wcd_md_396 rfl ?_
  refine wt_bn_iconst hE (4 : Int32) wcd_md_397 wt_ci_4 ?_
  refine wt_bn_icmp_geF hE 414 wcd_md_398 rfl (by decide) ?_
  refine wt_bn_aload_n hE wcd_md_401 rfl ?_
  refine wt_bn_getr (kf := 47) hE wt_cf11 rfl (Nat.le_of_ble_eq_true rfl) rfl (wt_g7 15 rfl rfl) wt_L108 rfl (Nat.le_of_ble_eq_true rfl) (by decide +kernel) wcd_md_402 ?_
  refine wt_bn_iload_n hE wcd_md_405 rfl ?_
  refine wt_bn_iconst hE (-1 : Int32) wcd_md_406 wt_ci_m1 ?_
  refine wt_bn_iast hE wt_L275 (by decide) (by unfold vp_in; decide) wcd_md_407 ?_
  refine wt_bn_iinc hE (3 : Int32) [some (.inr 108), some (.inl (3 : Int32))] wcd_md_408 (by decide) rfl (by decide) rfl ?_
  refine wt_bn_goto hE 396 wcd_md_411 rfl ?_
  refine wt_bn_iload_n hE wcd_md_396 rfl ?_
  refine wt_bn_iconst hE (4 : Int32) wcd_md_397 wt_ci_4 ?_
  refine wt_bn_icmp_geF hE 414 wcd_md_398 rfl (by decide) ?_
  refine wt_bn_aload_n hE wcd_md_401 rfl ?_
  refine wt_bn_getr (kf := 47) hE wt_cf11 rfl (Nat.le_of_ble_eq_true rfl) rfl (wt_g7 15 rfl rfl) wt_L108 rfl (Nat.le_of_ble_eq_true rfl) (by decide +kernel) wcd_md_402 ?_
  refine wt_bn_iload_n hE wcd_md_405 rfl ?_
  refine wt_bn_iconst hE (-1 : Int32) wcd_md_406 wt_ci_m1 ?_
  refine wt_bn_iast hE wt_L275 (by decide) (by unfold vp_in; decide) wcd_md_407 ?_
  refine wt_bn_iinc hE (4 : Int32) [some (.inr 108), some (.inl (4 : Int32))] wcd_md_408 (by decide) rfl (by decide) rfl ?_
  refine wt_bn_goto hE 396 wcd_md_411 rfl ?_
  refine wt_bn_iload_n hE wcd_md_396 rfl ?_
  refine wt_bn_iconst hE (4 : Int32) wcd_md_397 wt_ci_4 ?_
  refine wt_bn_icmp_geT hE 414 wcd_md_398 rfl (by decide) ?_
  exact wt_bn_ret (k0 := 630) hE hR (Nat.le_of_ble_eq_true rfl) (Nat.le_of_ble_eq_true rfl) wcd_md_414
