section WST
variable {s : State} {b : Nat}
theorem wt_lit_of {A : Nat → Prop} {own tx : String} {k : Nat} {bs : List Int32} (hA : ∀ a : Nat, a < s.heap.size → ¬ A a) (hN : bs.length < 2 ^ 31) (hr : (Cond.stringRef own k tx).before #[Value.ref b] s = true) (hex : (Cond.exactly (Term.string own k) "java/lang/String").before #[Value.ref b] s = true) (hco : (Cond.eq (.field (Term.string own k) "java/lang/String" "coder" "B") (.int 0)).before #[Value.ref b] s = true)
    (har : (Cond.arrayOf (.field (Term.string own k) "java/lang/String" "value" "[B") .byte).before #[Value.ref b] s = true) (hle : (Cond.eq (.length (.field (Term.string own k) "java/lang/String" "value" "[B")) (.int (Int32.ofNat bs.length))).before #[Value.ref b] s = true)
    (hel : ∀ j : Nat, j < bs.length → (Cond.eq (.elem (.field (Term.string own k) "java/lang/String" "value" "[B") (.int (Int32.ofNat j))) (.int (bs.getD j 0))).before #[Value.ref b] s = true) : ∃ a : Nat, vk_R own k tx a s ∧ wt_Str a bs A s s.heap := by
  obtain ⟨a, c, cA, kA, q1, q2, q3, q4, q5, q6, -⟩ := Cond.exactly_spec (args := #[Value.ref b]) (first := s) (o := none) (s := s) (idx := []) (t := Term.string own k) (cls := "java/lang/String") hex
  obtain ⟨t, ht, hT⟩ := va_Tof (f := fun j => .int (bs.getD j 0)) (A := A) hN har (va_eqt hle) (fun j hj => va_eqt (hel j hj)) hA
  exact ⟨a, vk_R.of hr q1, ⟨cA, q3, q5, by rw [q6]; exact q2, hA a (Array.getElem?_eq_some_iff.mp q3).1⟩, vk_OFof q1 (va_eqt hco) hA, t, vk_OFof q1 ht hA, hT⟩
theorem wt_xlit_of {own tx : String} {k : Nat} (hr : (Cond.stringRef own k tx).before #[Value.ref b] s = true) (hex : (Cond.exactly (Term.string own k) "java/lang/String").before #[Value.ref b] s = true) : ∃ a : Nat, vk_R own k tx a s := by
  obtain ⟨a, c, cA, kA, q1, -⟩ := Cond.exactly_spec (args := #[Value.ref b]) (first := s) (o := none) (s := s) (idx := []) (t := Term.string own k) (cls := "java/lang/String") hex
  exact ⟨a, vk_R.of hr q1⟩
set_option maxRecDepth 100000 in
theorem wt_lit_82 (hts : ∀ w ∈ lw_tbl, w.before #[Value.ref b] s = true) (hgv : (Jvm.Cond.and given_1 narrow_1).before #[Value.ref b] s = true) {A : Nat → Prop} (hA : ∀ a : Nat, a < s.heap.size → ¬ A a) : ∃ a : Nat, vk_R "WornType$Lead" 82 "letter" a s ∧ wt_Str a [108, 101, 116, 116, 101, 114] A s s.heap := by
  have hs := flat_of_before _ hgv
  refine wt_lit_of hA (by decide) (hts _ (wt_k3 (List.mem_of_getElem? (i := 167) rfl))) (hs _ (by decide +kernel)) (hs _ (by decide +kernel)) (hs _ (by decide +kernel)) (hs _ (by decide +kernel)) (fun j hj => ?_)
  match j, hj with
    | 0, _ => exact hs _ (by decide +kernel)
    | 1, _ => exact hs _ (by decide +kernel)
    | 2, _ => exact hs _ (by decide +kernel)
    | 3, _ => exact hs _ (by decide +kernel)
    | 4, _ => exact hs _ (by decide +kernel)
    | 5, _ => exact hs _ (by decide +kernel)
    | n + 6, hj => exact absurd hj (by simp)
set_option maxRecDepth 100000 in
theorem wt_lit_92 (hts : ∀ w ∈ lw_tbl, w.before #[Value.ref b] s = true) (hgv : (Jvm.Cond.and given_1 narrow_1).before #[Value.ref b] s = true) {A : Nat → Prop} (hA : ∀ a : Nat, a < s.heap.size → ¬ A a) : ∃ a : Nat, vk_R "WornType$Lead" 92 "there" a s ∧ wt_Str a [116, 104, 101, 114, 101] A s s.heap := by
  have hs := flat_of_before _ hgv
  refine wt_lit_of hA (by decide) (hts _ (wt_k3 (List.mem_of_getElem? (i := 224) rfl))) (hs _ (by decide +kernel)) (hs _ (by decide +kernel)) (hs _ (by decide +kernel)) (hs _ (by decide +kernel)) (fun j hj => ?_)
  match j, hj with
    | 0, _ => exact hs _ (by decide +kernel)
    | 1, _ => exact hs _ (by decide +kernel)
    | 2, _ => exact hs _ (by decide +kernel)
    | 3, _ => exact hs _ (by decide +kernel)
    | 4, _ => exact hs _ (by decide +kernel)
    | n + 5, hj => exact absurd hj (by simp)
set_option maxRecDepth 100000 in
theorem wt_lit_94 (hts : ∀ w ∈ lw_tbl, w.before #[Value.ref b] s = true) (hgv : (Jvm.Cond.and given_1 narrow_1).before #[Value.ref b] s = true) {A : Nat → Prop} (hA : ∀ a : Nat, a < s.heap.size → ¬ A a) : ∃ a : Nat, vk_R "WornType$Lead" 94 "price" a s ∧ wt_Str a [112, 114, 105, 99, 101] A s s.heap := by
  have hs := flat_of_before _ hgv
  refine wt_lit_of hA (by decide) (hts _ (wt_k3 (List.mem_of_getElem? (i := 225) rfl))) (hs _ (by decide +kernel)) (hs _ (by decide +kernel)) (hs _ (by decide +kernel)) (hs _ (by decide +kernel)) (fun j hj => ?_)
  match j, hj with
    | 0, _ => exact hs _ (by decide +kernel)
    | 1, _ => exact hs _ (by decide +kernel)
    | 2, _ => exact hs _ (by decide +kernel)
    | 3, _ => exact hs _ (by decide +kernel)
    | 4, _ => exact hs _ (by decide +kernel)
    | n + 5, hj => exact absurd hj (by simp)
set_option maxRecDepth 100000 in
theorem wt_lit_99 (hts : ∀ w ∈ lw_tbl, w.before #[Value.ref b] s = true) (hgv : (Jvm.Cond.and given_1 narrow_1).before #[Value.ref b] s = true) {A : Nat → Prop} (hA : ∀ a : Nat, a < s.heap.size → ¬ A a) : ∃ a : Nat, vk_R "WornType$Lead" 99 "faint" a s ∧ wt_Str a [102, 97, 105, 110, 116] A s s.heap := by
  have hs := flat_of_before _ hgv
  refine wt_lit_of hA (by decide) (hts _ (wt_k3 (List.mem_of_getElem? (i := 226) rfl))) (hs _ (by decide +kernel)) (hs _ (by decide +kernel)) (hs _ (by decide +kernel)) (hs _ (by decide +kernel)) (fun j hj => ?_)
  match j, hj with
    | 0, _ => exact hs _ (by decide +kernel)
    | 1, _ => exact hs _ (by decide +kernel)
    | 2, _ => exact hs _ (by decide +kernel)
    | 3, _ => exact hs _ (by decide +kernel)
    | 4, _ => exact hs _ (by decide +kernel)
    | n + 5, hj => exact absurd hj (by simp)
set_option maxRecDepth 100000 in
theorem wt_lit_103 (hts : ∀ w ∈ lw_tbl, w.before #[Value.ref b] s = true) (hgv : (Jvm.Cond.and given_1 narrow_1).before #[Value.ref b] s = true) {A : Nat → Prop} (hA : ∀ a : Nat, a < s.heap.size → ¬ A a) : ∃ a : Nat, vk_R "WornType$Lead" 103 "like" a s ∧ wt_Str a [108, 105, 107, 101] A s s.heap := by
  have hs := flat_of_before _ hgv
  refine wt_lit_of hA (by decide) (hts _ (wt_k3 (List.mem_of_getElem? (i := 227) rfl))) (hs _ (by decide +kernel)) (hs _ (by decide +kernel)) (hs _ (by decide +kernel)) (hs _ (by decide +kernel)) (fun j hj => ?_)
  match j, hj with
    | 0, _ => exact hs _ (by decide +kernel)
    | 1, _ => exact hs _ (by decide +kernel)
    | 2, _ => exact hs _ (by decide +kernel)
    | 3, _ => exact hs _ (by decide +kernel)
    | n + 4, hj => exact absurd hj (by simp)
set_option maxRecDepth 100000 in
theorem wt_lit_111 (hts : ∀ w ∈ lw_tbl, w.before #[Value.ref b] s = true) (hgv : (Jvm.Cond.and given_1 narrow_1).before #[Value.ref b] s = true) {A : Nat → Prop} (hA : ∀ a : Nat, a < s.heap.size → ¬ A a) : ∃ a : Nat, vk_R "WornType$Lead" 111 "follow" a s ∧ wt_Str a [102, 111, 108, 108, 111, 119] A s s.heap := by
  have hs := flat_of_before _ hgv
  refine wt_lit_of hA (by decide) (hts _ (wt_k3 (List.mem_of_getElem? (i := 228) rfl))) (hs _ (by decide +kernel)) (hs _ (by decide +kernel)) (hs _ (by decide +kernel)) (hs _ (by decide +kernel)) (fun j hj => ?_)
  match j, hj with
    | 0, _ => exact hs _ (by decide +kernel)
    | 1, _ => exact hs _ (by decide +kernel)
    | 2, _ => exact hs _ (by decide +kernel)
    | 3, _ => exact hs _ (by decide +kernel)
    | 4, _ => exact hs _ (by decide +kernel)
    | 5, _ => exact hs _ (by decide +kernel)
    | n + 6, hj => exact absurd hj (by simp)
set_option maxRecDepth 100000 in
theorem wt_start_FX (hts : ∀ w ∈ lw_tbl, w.before #[Value.ref b] s = true) (hgv : (Jvm.Cond.and given_1 narrow_1).before #[Value.ref b] s = true) {A : Nat → Prop} (hA : ∀ a : Nat, a < s.heap.size → ¬ A a) : wt_FX A s s.heap := by
  have hs := flat_of_before _ hgv
  refine ⟨fun q hq => ?_, fun q hq => ?_, ?_, ?_, ?_, ?_⟩
  · simp only [wt_lits, List.mem_cons, List.not_mem_nil, or_false] at hq
    rcases hq with rfl | rfl | rfl | rfl | rfl | rfl
    · exact wt_lit_82 hts hgv hA
    · exact wt_lit_92 hts hgv hA
    · exact wt_lit_94 hts hgv hA
    · exact wt_lit_99 hts hgv hA
    · exact wt_lit_103 hts hgv hA
    · exact wt_lit_111 hts hgv hA
  · simp only [wt_xlits, List.mem_cons, List.not_mem_nil, or_false] at hq
    rcases hq with rfl | rfl | rfl | rfl | rfl | rfl | rfl
    · exact wt_xlit_of (hts _ (wt_k4 (List.mem_of_getElem? (i := 134) rfl))) (hs _ (by decide +kernel))
    · exact wt_xlit_of (hts _ (wt_k4 (List.mem_of_getElem? (i := 167) rfl))) (hs _ (by decide +kernel))
    · exact wt_xlit_of (hts _ (wt_k4 (List.mem_of_getElem? (i := 185) rfl))) (hs _ (by decide +kernel))
    · exact wt_xlit_of (hts _ (wt_k5 (List.mem_of_getElem? (i := 5) rfl))) (hs _ (by decide +kernel))
    · exact wt_xlit_of (hts _ (wt_k5 (List.mem_of_getElem? (i := 161) rfl))) (hs _ (by decide +kernel))
    · exact wt_xlit_of (hts _ (wt_k3 (List.mem_of_getElem? (i := 105) rfl))) (hs _ (by decide +kernel))
    · exact wt_xlit_of (hts _ (wt_k4 (List.mem_of_getElem? (i := 216) rfl))) (hs _ (by decide +kernel))
  · exact va_Zof (hts _ (wt_k3 (List.mem_of_getElem? (i := 185) rfl))) (hts _ (wt_k1 (List.mem_of_getElem? (i := 17) rfl))) (va_eqt (hs _ (by decide +kernel))) hA
  · exact va_Zqof (hts _ (wt_k3 (List.mem_of_getElem? (i := 201) rfl))) (hts _ (wt_k1 (List.mem_of_getElem? (i := 19) rfl))) (hs _ (by decide +kernel)) hA
  · exact vx_Zqof (hts _ (wt_k3 (List.mem_of_getElem? (i := 91) rfl))) (hts _ (wt_k1 (List.mem_of_getElem? (i := 13) rfl))) (hs _ (by decide +kernel)) hA
  · exact vx_Zqof (hts _ (wt_k3 (List.mem_of_getElem? (i := 93) rfl))) (hts _ (wt_k1 (List.mem_of_getElem? (i := 13) rfl))) (hs _ (by decide +kernel)) hA
theorem wt_start_SN (hts : ∀ w ∈ lw_tbl, w.before #[Value.ref b] s = true) (hgv : (Jvm.Cond.and given_1 narrow_1).before #[Value.ref b] s = true) {A : Nat → Prop} {H : Heap} : wt_SN A s H := by
  have hs := flat_of_before _ hgv
  exact ⟨va_Nc.of (hs _ (by decide +kernel)), va_Nc.of (hs _ (by decide +kernel))⟩
set_option maxRecDepth 100000 in
theorem wt_start_SA (hts : ∀ w ∈ lw_tbl, w.before #[Value.ref b] s = true) {A : Nat → Prop} {H : Heap} : wt_SA A s H := ⟨va_AO.of (hts _ (wt_k2 (List.mem_of_getElem? (i := 4) rfl))), va_AOA.of (hts _ (wt_k2 (List.mem_of_getElem? (i := 93) rfl)))⟩
theorem wt_start_NW (hts : ∀ w ∈ lw_tbl, w.before #[Value.ref b] s = true) : wt_NW s := fun w hw => by
  have h1 := (List.mem_filter.mp hw).2
  have h2 := hts w (List.mem_filter.mp hw).1
  cases w <;> first | exact va_Nw.of rfl h2 | cases h1
theorem wt_start_GT (hts : ∀ w ∈ lw_tbl, w.before #[Value.ref b] s = true) : ∀ w ∈ wt_GT, w.before #[Value.ref b] s = true := fun w hw => hts w (List.mem_filter.mp hw).1
set_option maxRecDepth 100000 in
theorem wt_start_K (hts : ∀ w ∈ lw_tbl, w.before #[Value.ref b] s = true) : ∃ (D : va_G) (cI cJ cS : ClassId), va_K D wt_cl [(cI, .int), (cJ, .array .int), (cS, .object "WornType$State")] s := by
  obtain ⟨c0, i0, hKn0⟩ := u_known (C := wt_R0) (T := wt_T0) (N := 8) (n := 8) (wt_start_GT hts) wt_cf0.1 (hts _ (wt_k1 (List.mem_of_getElem? (i := 71) rfl)))
  obtain ⟨c1, i1, hKn1⟩ := u_known (C := wt_R1) (T := wt_T1) (N := 8) (n := 8) (wt_start_GT hts) wt_cf1.1 (hts _ (wt_k2 (List.mem_of_getElem? (i := 19) rfl)))
  obtain ⟨c2, i2, hKn2⟩ := u_known (C := wt_R2) (T := wt_T2) (N := 10) (n := 10) (wt_start_GT hts) wt_cf2.1 (hts _ (wt_k2 (List.mem_of_getElem? (i := 50) rfl)))
  obtain ⟨c3, i3, hKn3⟩ := u_known (C := wt_R3) (T := wt_T3) (N := 10) (n := 10) (wt_start_GT hts) wt_cf3.1 (hts _ (wt_k1 (List.mem_of_getElem? (i := 183) rfl)))
  obtain ⟨c4, i4, hKn4⟩ := u_known (C := wt_R4) (T := wt_T4) (N := 2) (n := 2) (wt_start_GT hts) wt_cf4.1 (hts _ (wt_k2 (List.mem_of_getElem? (i := 6) rfl)))
  obtain ⟨c5, i5, hKn5⟩ := u_known (C := wt_R5) (T := wt_T5) (N := 8) (n := 8) (wt_start_GT hts) wt_cf5.1 (hts _ (wt_k1 (List.mem_of_getElem? (i := 34) rfl)))
  obtain ⟨c6, i6, hKn6⟩ := u_known (C := wt_R6) (T := wt_T6) (N := 5) (n := 5) (wt_start_GT hts) wt_cf6.1 (hts _ (wt_k1 (List.mem_of_getElem? (i := 159) rfl)))
  obtain ⟨c7, i7, hKn7⟩ := u_known (C := wt_R7) (T := wt_T7) (N := 8) (n := 8) (wt_start_GT hts) wt_cf7.1 (hts _ (wt_k1 (List.mem_of_getElem? (i := 119) rfl)))
  obtain ⟨c8, i8, hKn8⟩ := u_known (C := wt_R8) (T := wt_T8) (N := 9) (n := 9) (wt_start_GT hts) wt_cf8.1 (hts _ (wt_k2 (List.mem_of_getElem? (i := 132) rfl)))
  obtain ⟨c9, i9, hKn9⟩ := u_known (C := wt_R9) (T := wt_T9) (N := 11) (n := 11) (wt_start_GT hts) wt_cf9.1 (hts _ (wt_k2 (List.mem_of_getElem? (i := 87) rfl)))
  obtain ⟨c10, i10, hKn10⟩ := u_known (C := wt_R10) (T := wt_T10) (N := 15) (n := 15) (wt_start_GT hts) wt_cf10.1 (hts _ (wt_k1 (List.mem_of_getElem? (i := 26) rfl)))
  obtain ⟨c11, i11, hKn11⟩ := u_known (C := wt_R11) (T := wt_T11) (N := 64) (n := 64) (wt_start_GT hts) wt_cf11.1 (hts _ (wt_k6 (List.mem_of_getElem? (i := 194) rfl)))
  obtain ⟨kI, kkI, compI, a1, a2, a3⟩ := Cond.arrayClass_spec (args := #[Value.ref b]) (hts (Cond.arrayClass .int) (wt_k1 (List.mem_of_getElem? (i := 69) rfl)))
  obtain ⟨compJ, kJ, kkJ, b1, b2, b3, b4⟩ := Cond.arrayOver_specA (args := #[Value.ref b]) (hts (Cond.arrayOver (.array .int)) (wt_k2 (List.mem_of_getElem? (i := 93) rfl)))
  obtain ⟨compS, kS, kkS, e1, e0, e2, e3, e4⟩ := Cond.arrayOver_spec (args := #[Value.ref b]) (hts (Cond.arrayOver (.object "WornType$State")) (wt_k2 (List.mem_of_getElem? (i := 4) rfl)))
  refine ⟨(fun k => [c0, c1, c2, c3, c4, c5, c6, c7, c8, c9, c10, c11].getD k c0, fun k => match k with
    | 0 => i0
    | 1 => i1
    | 2 => i2
    | 3 => i3
    | 4 => i4
    | 5 => i5
    | 6 => i6
    | 7 => i7
    | 8 => i8
    | 9 => i9
    | 10 => i10
    | 11 => i11
    | _ => i0), kI, kJ, kS, ?_, ?_⟩
  · intro k q hq
    match k, hq with
    | 0, hq => cases hq; exact hKn0
    | 1, hq => cases hq; exact hKn1
    | 2, hq => cases hq; exact hKn2
    | 3, hq => cases hq; exact hKn3
    | 4, hq => cases hq; exact hKn4
    | 5, hq => cases hq; exact hKn5
    | 6, hq => cases hq; exact hKn6
    | 7, hq => cases hq; exact hKn7
    | 8, hq => cases hq; exact hKn8
    | 9, hq => cases hq; exact hKn9
    | 10, hq => cases hq; exact hKn10
    | 11, hq => cases hq; exact hKn11
    | k + 12, hq => cases hq
  · intro k q hq
    match k, hq with
    | 0, hq => cases hq; exact ⟨fun n z => ⟨fun q h => (by cases h), kkI, a2, compI, a3⟩, a1⟩
    | 1, hq => cases hq; exact ⟨fun n z => ⟨fun q h => (by cases h), kkJ, b2, compJ, b3⟩, b4⟩
    | 2, hq => cases hq; exact ⟨fun n z => ⟨fun q h => (by cases h), kkS, e2, compS, e3⟩, kkS, compS, e2, e3, e1, e4⟩
    | k + 3, hq => cases hq
end WST
