-- 60.3start.lean.txt
section WTQ0
section WST
variable {s : State} {b : Nat}
theorem wt_lit_of {A : Nat → Prop} {own tx : String} {k : Nat} {bs : List Int32} (hA : ∀ a : Nat, a < s.heap.size → ¬ A a) (hN : bs.length < 2 ^ 31) (hr : (Cond.stringRef own k tx).before #[Value.ref b] s = true) (hex : (Cond.exactly (Term.string own k) "java/lang/String").before #[Value.ref b] s = true) (hco : (Cond.eq (.field (Term.string own k) "java/lang/String" "coder" "B") (.int 0)).before #[Value.ref b] s = true)
    (har : (Cond.arrayOf (.field (Term.string own k) "java/lang/String" "value" "[B") .byte).before #[Value.ref b] s = true) (hle : (Cond.eq (.length (.field (Term.string own k) "java/lang/String" "value" "[B")) (.int (Int32.ofNat bs.length))).before #[Value.ref b] s = true)
    (hel : ∀ j : Nat, j < bs.length → (Cond.eq (.elem (.field (Term.string own k) "java/lang/String" "value" "[B") (.int (Int32.ofNat j))) (.int (bs.getD j 0))).before #[Value.ref b] s = true) : ∃ a : Nat, vk_R own k tx a s ∧ wt_Str a bs A s s.heap := by
  obtain ⟨a, c, cA, kA, q1, q2, q3, q4, q5, q6, -⟩ := Cond.exactly_spec (args := #[Value.ref b]) (first := s) (o := none) (s := s) (idx := []) (t := Term.string own k) (cls := "java/lang/String") hex
  obtain ⟨t, ht, hT⟩ := va_Tof (f := fun j => .int (bs.getD j 0)) (A := A) hN har (va_eqt hle) (fun j hj => va_eqt (hel j hj)) hA
  exact ⟨a, vk_R.of hr q1, ⟨cA, q3, q5, by rw [q6]; exact q2, hA a (Array.getElem?_eq_some_iff.mp q3).1⟩, vk_OFof q1 (va_eqt hco) hA, t, vk_OFof q1 ht hA, hT⟩
theorem wt_xlit_of {own tx : String} {k : Nat} (hr : (Cond.stringRef own k tx).before #[Value.ref b] s = true) (hex : (Cond.exactly (Term.string own k) "java/lang/String").before #[Value.ref b] s = true) : ∃ a : Nat, vk_R own k tx a s := by
  obtain ⟨a, c, cA, kA, q1, -⟩ := Cond.exactly_spec (args := #[Value.ref b]) (first := s) (o := none) (s := s) (idx := []) (t := Term.string own k) (cls := "java/lang/String") hex
  exact ⟨a, vk_R.of hr q1⟩
set_option maxRecDepth 100000 in
theorem wt_lit_82 (hts : ∀ w ∈ lw_tbl, w.before #[Value.ref b] s = true) (hgv : (Jvm.Cond.and given_1 narrow_1).before #[Value.ref b] s = true) {A : Nat → Prop} (hA : ∀ a : Nat, a < s.heap.size → ¬ A a) : ∃ a : Nat, vk_R "WornType$Lead" 82 "letter" a s ∧ wt_Str a [108, 101, 116, 116, 101, 114] A s s.heap := by
  have hs := flat_of_before _ hgv
  refine wt_lit_of hA (by decide) (hts _ (wt_k3 (List.mem_of_getElem? (i := 167) rfl))) (hs _ (by decide +kernel)) (hs _ (by decide +kernel)) (hs _ (by decide +kernel)) (hs _ (by decide +kernel)) (fun j hj => ?_)
  match j, hj with
    | 0, _ => exact hs _ (by decide +kernel)
    | 1, _ => exact hs _ (by decide +kernel)
    | 2, _ => exact hs _ (by decide +kernel)
    | 3, _ => exact hs _ (by decide +kernel)
    | 4, _ => exact hs _ (by decide +kernel)
    | 5, _ => exact hs _ (by decide +kernel)
    | n + 6, hj => exact absurd hj (by simp)
set_option maxRecDepth 100000 in
theorem wt_lit_92 (hts : ∀ w ∈ lw_tbl, w.before #[Value.ref b] s = true) (hgv : (Jvm.Cond.and given_1 narrow_1).before #[Value.ref b] s = true) {A : Nat → Prop} (hA : ∀ a : Nat, a < s.heap.size → ¬ A a) : ∃ a : Nat, vk_R "WornType$Lead" 92 "there" a s ∧ wt_Str a [116, 104, 101, 114, 101] A s s.heap := by
  have hs := flat_of_before _ hgv
  refine wt_lit_of hA (by decide) (hts _ (wt_k3 (List.mem_of_getElem? (i := 224) rfl))) (hs _ (by decide +kernel)) (hs _ (by decide +kernel)) (hs _ (by decide +kernel)) (hs _ (by decide +kernel)) (fun j hj => ?_)
  match j, hj with
    | 0, _ => exact hs _ (by decide +kernel)
    | 1, _ => exact hs _ (by decide +kernel)
    | 2, _ => exact hs _ (by decide +kernel)
    | 3, _ => exact hs _ (by decide +kernel)
    | 4, _ => exact hs _ (by decide +kernel)
    | n + 5, hj => exact absurd hj (by simp)
set_option maxRecDepth 100000 in
theorem wt_lit_94 (hts : ∀ w ∈ lw_tbl, w.before #[Value.ref b] s = true) (hgv : (Jvm.Cond.and given_1 narrow_1).before #[Value.ref b] s = true) {A : Nat → Prop} (hA : ∀ a : Nat, a < s.heap.size → ¬ A a) : ∃ a : Nat, vk_R "WornType$Lead" 94 "price" a s ∧ wt_Str a [112, 114, 105, 99, 101] A s s.heap := by
  have hs := flat_of_before _ hgv
  refine wt_lit_of hA (by decide) (hts _ (wt_k3 (List.mem_of_getElem? (i := 225) rfl))) (hs _ (by decide +kernel)) (hs _ (by decide +kernel)) (hs _ (by decide +kernel)) (hs _ (by decide +kernel)) (fun j hj => ?_)
  match j, hj with
    | 0, _ => exact hs _ (by decide +kernel)
    | 1, _ => exact hs _ (by decide +kernel)
    | 2, _ => exact hs _ (by decide +kernel)
    | 3, _ => exact hs _ (by decide +kernel)
    | 4, _ => exact hs _ (by decide +kernel)
    | n + 5, hj => exact absurd hj (by simp)
set_option maxRecDepth 100000 in
theorem wt_lit_99 (hts : ∀ w ∈ lw_tbl, w.before #[Value.ref b] s = true) (hgv : (Jvm.Cond.and given_1 narrow_1).before #[Value.ref b] s = true) {A : Nat → Prop} (hA : ∀ a : Nat, a < s.heap.size → ¬ A a) : ∃ a : Nat, vk_R "WornType$Lead" 99 "faint" a s ∧ wt_Str a [102, 97, 105, 110, 116] A s s.heap := by
  have hs := flat_of_before _ hgv
  refine wt_lit_of hA (by decide) (hts _ (wt_k3 (List.mem_of_getElem? (i := 226) rfl))) (hs _ (by decide +kernel)) (hs _ (by decide +kernel)) (hs _ (by decide +kernel)) (hs _ (by decide +kernel)) (fun j hj => ?_)
  match j, hj with
    | 0, _ => exact hs _ (by decide +kernel)
    | 1, _ => exact hs _ (by decide +kernel)
    | 2, _ => exact hs _ (by decide +kernel)
    | 3, _ => exact hs _ (by decide +kernel)
    | 4, _ => exact hs _ (by decide +kernel)
    | n + 5, hj => exact absurd hj (by simp)
set_option maxRecDepth 100000 in
theorem wt_lit_103 (hts : ∀ w ∈ lw_tbl, w.before #[Value.ref b] s = true) (hgv : (Jvm.Cond.and given_1 narrow_1).before #[Value.ref b] s = true) {A : Nat → Prop} (hA : ∀ a : Nat, a < s.heap.size → ¬ A a) : ∃ a : Nat, vk_R "WornType$Lead" 103 "like" a s ∧ wt_Str a [108, 105, 107, 101] A s s.heap := by
  have hs := flat_of_before _ hgv
  refine wt_lit_of hA (by decide) (hts _ (wt_k3 (List.mem_of_getElem? (i := 227) rfl))) (hs _ (by decide +kernel)) (hs _ (by decide +kernel)) (hs _ (by decide +kernel)) (hs _ (by decide +kernel)) (fun j hj => ?_)
  match j, hj with
    | 0, _ => exact hs _ (by decide +kernel)
    | 1, _ => exact hs _ (by decide +kernel)
    | 2, _ => exact hs _ (by decide +kernel)
    | 3, _ => exact hs _ (by decide +kernel)
    | n + 4, hj => exact absurd hj (by simp)
set_option maxRecDepth 100000 in
theorem wt_lit_111 (hts : ∀ w ∈ lw_tbl, w.before #[Value.ref b] s = true) (hgv : (Jvm.Cond.and given_1 narrow_1).before #[Value.ref b] s = true) {A : Nat → Prop} (hA : ∀ a : Nat, a < s.heap.size → ¬ A a) : ∃ a : Nat, vk_R "WornType$Lead" 111 "follow" a s ∧ wt_Str a [102, 111, 108, 108, 111, 119] A s s.heap := by
  have hs := flat_of_before _ hgv
  refine wt_lit_of hA (by decide) (hts _ (wt_k3 (List.mem_of_getElem? (i := 228) rfl))) (hs _ (by decide +kernel)) (hs _ (by decide +kernel)) (hs _ (by decide +kernel)) (hs _ (by decide +kernel)) (fun j hj => ?_)
  match j, hj with
    | 0, _ => exact hs _ (by decide +kernel)
    | 1, _ => exact hs _ (by decide +kernel)
    | 2, _ => exact hs _ (by decide +kernel)
    | 3, _ => exact hs _ (by decide +kernel)
    | 4, _ => exact hs _ (by decide +kernel)
    | 5, _ => exact hs _ (by decide +kernel)
    | n + 6, hj => exact absurd hj (by simp)
set_option maxRecDepth 100000 in
theorem wt_start_FX (hts : ∀ w ∈ lw_tbl, w.before #[Value.ref b] s = true) (hgv : (Jvm.Cond.and given_1 narrow_1).before #[Value.ref b] s = true) {A : Nat → Prop} (hA : ∀ a : Nat, a < s.heap.size → ¬ A a) : wt_FX A s s.heap := by
  have hs := flat_of_before _ hgv
  refine ⟨fun q hq => ?_, fun q hq => ?_, ?_, ?_, ?_, ?_⟩
  · simp only [wt_lits, List.mem_cons, List.not_mem_nil, or_false] at hq
    rcases hq with rfl | rfl | rfl | rfl | rfl | rfl
    · exact wt_lit_82 hts hgv hA
    · exact wt_lit_92 hts hgv hA
    · exact wt_lit_94 hts hgv hA
    · exact wt_lit_99 hts hgv hA
    · exact wt_lit_103 hts hgv hA
    · exact wt_lit_111 hts hgv hA
  · simp only [wt_xlits, List.mem_cons, List.not_mem_nil, or_false] at hq
    rcases hq with rfl | rfl | rfl | rfl | rfl | rfl | rfl
    · exact wt_xlit_of (hts _ (wt_k4 (List.mem_of_getElem? (i := 134) rfl))) (hs _ (by decide +kernel))
    · exact wt_xlit_of (hts _ (wt_k4 (List.mem_of_getElem? (i := 167) rfl))) (hs _ (by decide +kernel))
    · exact wt_xlit_of (hts _ (wt_k4 (List.mem_of_getElem? (i := 185) rfl))) (hs _ (by decide +kernel))
    · exact wt_xlit_of (hts _ (wt_k5 (List.mem_of_getElem? (i := 5) rfl))) (hs _ (by decide +kernel))
    · exact wt_xlit_of (hts _ (wt_k5 (List.mem_of_getElem? (i := 161) rfl))) (hs _ (by decide +kernel))
    · exact wt_xlit_of (hts _ (wt_k3 (List.mem_of_getElem? (i := 105) rfl))) (hs _ (by decide +kernel))
    · exact wt_xlit_of (hts _ (wt_k4 (List.mem_of_getElem? (i := 216) rfl))) (hs _ (by decide +kernel))
  · exact va_Zof (hts _ (wt_k3 (List.mem_of_getElem? (i := 185) rfl))) (hts _ (wt_k1 (List.mem_of_getElem? (i := 17) rfl))) (va_eqt (hs _ (by decide +kernel))) hA
  · exact va_Zqof (hts _ (wt_k3 (List.mem_of_getElem? (i := 201) rfl))) (hts _ (wt_k1 (List.mem_of_getElem? (i := 19) rfl))) (hs _ (by decide +kernel)) hA
  · exact vx_Zqof (hts _ (wt_k3 (List.mem_of_getElem? (i := 91) rfl))) (hts _ (wt_k1 (List.mem_of_getElem? (i := 13) rfl))) (hs _ (by decide +kernel)) hA
  · exact vx_Zqof (hts _ (wt_k3 (List.mem_of_getElem? (i := 93) rfl))) (hts _ (wt_k1 (List.mem_of_getElem? (i := 13) rfl))) (hs _ (by decide +kernel)) hA
theorem wt_start_SN (hts : ∀ w ∈ lw_tbl, w.before #[Value.ref b] s = true) (hgv : (Jvm.Cond.and given_1 narrow_1).before #[Value.ref b] s = true) {A : Nat → Prop} {H : Heap} : wt_SN A s H := by
  have hs := flat_of_before _ hgv
  exact ⟨va_Nc.of (hs _ (by decide +kernel)), va_Nc.of (hs _ (by decide +kernel))⟩
set_option maxRecDepth 100000 in
theorem wt_start_SA (hts : ∀ w ∈ lw_tbl, w.before #[Value.ref b] s = true) {A : Nat → Prop} {H : Heap} : wt_SA A s H := ⟨va_AO.of (hts _ (wt_k2 (List.mem_of_getElem? (i := 4) rfl))), va_AOA.of (hts _ (wt_k2 (List.mem_of_getElem? (i := 93) rfl)))⟩
theorem wt_start_NW (hts : ∀ w ∈ lw_tbl, w.before #[Value.ref b] s = true) : wt_NW s := fun w hw => by
  have h1 := (List.mem_filter.mp hw).2
  have h2 := hts w (List.mem_filter.mp hw).1
  cases w <;> first | exact va_Nw.of rfl h2 | cases h1
theorem wt_start_GT (hts : ∀ w ∈ lw_tbl, w.before #[Value.ref b] s = true) : ∀ w ∈ wt_GT, w.before #[Value.ref b] s = true := fun w hw => hts w (List.mem_filter.mp hw).1
set_option maxRecDepth 100000 in
theorem wt_start_K (hts : ∀ w ∈ lw_tbl, w.before #[Value.ref b] s = true) : ∃ (D : va_G) (cI cJ cS : ClassId), va_K D wt_cl [(cI, .int), (cJ, .array .int), (cS, .object "WornType$State")] s := by
  obtain ⟨c0, i0, hKn0⟩ := u_known (C := wt_R0) (T := wt_T0) (N := 8) (n := 8) (wt_start_GT hts) wt_cf0.1 (hts _ (wt_k1 (List.mem_of_getElem? (i := 71) rfl)))
  obtain ⟨c1, i1, hKn1⟩ := u_known (C := wt_R1) (T := wt_T1) (N := 8) (n := 8) (wt_start_GT hts) wt_cf1.1 (hts _ (wt_k2 (List.mem_of_getElem? (i := 19) rfl)))
  obtain ⟨c2, i2, hKn2⟩ := u_known (C := wt_R2) (T := wt_T2) (N := 10) (n := 10) (wt_start_GT hts) wt_cf2.1 (hts _ (wt_k2 (List.mem_of_getElem? (i := 50) rfl)))
  obtain ⟨c3, i3, hKn3⟩ := u_known (C := wt_R3) (T := wt_T3) (N := 10) (n := 10) (wt_start_GT hts) wt_cf3.1 (hts _ (wt_k1 (List.mem_of_getElem? (i := 183) rfl)))
  obtain ⟨c4, i4, hKn4⟩ := u_known (C := wt_R4) (T := wt_T4) (N := 2) (n := 2) (wt_start_GT hts) wt_cf4.1 (hts _ (wt_k2 (List.mem_of_getElem? (i := 6) rfl)))
  obtain ⟨c5, i5, hKn5⟩ := u_known (C := wt_R5) (T := wt_T5) (N := 8) (n := 8) (wt_start_GT hts) wt_cf5.1 (hts _ (wt_k1 (List.mem_of_getElem? (i := 34) rfl)))
  obtain ⟨c6, i6, hKn6⟩ := u_known (C := wt_R6) (T := wt_T6) (N := 5) (n := 5) (wt_start_GT hts) wt_cf6.1 (hts _ (wt_k1 (List.mem_of_getElem? (i := 159) rfl)))
  obtain ⟨c7, i7, hKn7⟩ := u_known (C := wt_R7) (T := wt_T7) (N := 8) (n := 8) (wt_start_GT hts) wt_cf7.1 (hts _ (wt_k1 (List.mem_of_getElem? (i := 119) rfl)))
  obtain ⟨c8, i8, hKn8⟩ := u_known (C := wt_R8) (T := wt_T8) (N := 9) (n := 9) (wt_start_GT hts) wt_cf8.1 (hts _ (wt_k2 (List.mem_of_getElem? (i := 132) rfl)))
  obtain ⟨c9, i9, hKn9⟩ := u_known (C := wt_R9) (T := wt_T9) (N := 11) (n := 11) (wt_start_GT hts) wt_cf9.1 (hts _ (wt_k2 (List.mem_of_getElem? (i := 87) rfl)))
  obtain ⟨c10, i10, hKn10⟩ := u_known (C := wt_R10) (T := wt_T10) (N := 15) (n := 15) (wt_start_GT hts) wt_cf10.1 (hts _ (wt_k1 (List.mem_of_getElem? (i := 26) rfl)))
  obtain ⟨c11, i11, hKn11⟩ := u_known (C := wt_R11) (T := wt_T11) (N := 64) (n := 64) (wt_start_GT hts) wt_cf11.1 (hts _ (wt_k6 (List.mem_of_getElem? (i := 194) rfl)))
  obtain ⟨kI, kkI, compI, a1, a2, a3⟩ := Cond.arrayClass_spec (args := #[Value.ref b]) (hts (Cond.arrayClass .int) (wt_k1 (List.mem_of_getElem? (i := 69) rfl)))
  obtain ⟨compJ, kJ, kkJ, b1, b2, b3, b4⟩ := Cond.arrayOver_specA (args := #[Value.ref b]) (hts (Cond.arrayOver (.array .int)) (wt_k2 (List.mem_of_getElem? (i := 93) rfl)))
  obtain ⟨compS, kS, kkS, e1, e0, e2, e3, e4⟩ := Cond.arrayOver_spec (args := #[Value.ref b]) (hts (Cond.arrayOver (.object "WornType$State")) (wt_k2 (List.mem_of_getElem? (i := 4) rfl)))
  refine ⟨(fun k => [c0, c1, c2, c3, c4, c5, c6, c7, c8, c9, c10, c11].getD k c0, fun k => match k with
    | 0 => i0
    | 1 => i1
    | 2 => i2
    | 3 => i3
    | 4 => i4
    | 5 => i5
    | 6 => i6
    | 7 => i7
    | 8 => i8
    | 9 => i9
    | 10 => i10
    | 11 => i11
    | _ => i0), kI, kJ, kS, ?_, ?_⟩
  · intro k q hq
    match k, hq with
    | 0, hq => cases hq; exact hKn0
    | 1, hq => cases hq; exact hKn1
    | 2, hq => cases hq; exact hKn2
    | 3, hq => cases hq; exact hKn3
    | 4, hq => cases hq; exact hKn4
    | 5, hq => cases hq; exact hKn5
    | 6, hq => cases hq; exact hKn6
    | 7, hq => cases hq; exact hKn7
    | 8, hq => cases hq; exact hKn8
    | 9, hq => cases hq; exact hKn9
    | 10, hq => cases hq; exact hKn10
    | 11, hq => cases hq; exact hKn11
    | k + 12, hq => cases hq
  · intro k q hq
    match k, hq with
    | 0, hq => cases hq; exact ⟨fun n z => ⟨fun q h => (by cases h), kkI, a2, compI, a3⟩, a1⟩
    | 1, hq => cases hq; exact ⟨fun n z => ⟨fun q h => (by cases h), kkJ, b2, compJ, b3⟩, b4⟩
    | 2, hq => cases hq; exact ⟨fun n z => ⟨fun q h => (by cases h), kkS, e2, compS, e3⟩, kkS, compS, e2, e3, e1, e4⟩
    | k + 3, hq => cases hq
end WST
end WTQ0
-- 60.4lawb.lean.txt
section WTQ1
/-! the law's beginning: it makes the class's object and the reference's, and its own cell -/
def wt_BV (X : wt_X) (v0 : Value) (k n next : Nat) (U : wt_U) (σ : wt_St) (pc : Nat) (lv : List (Option wt_Q)) (st : List wt_Q) : Prop :=
  ∀ (ad : Nat → Nat) (H : Heap) (locs : List Loc) (ls : Array Slot) (ce sl : Nat), ce ≤ k → sl ≤ n → wt_Bw X next U σ ad H → va_S (wt_A (wt_xw X) (wt_xs X).heap.size) (wt_xs X).heap H locs → wt_lo ls (wt_xn X) (some v0 :: lv.map (Option.map (wt_qv ad))) → wt_W X H locs ce sl (F0 (wt_xm X) pc ls (st.map (wt_qv ad)))
section WBV
variable {X : wt_X} {v0 : Value} {cc : ByteArray} {nL : Nat} {own : String} {d Km k n next : Nat} {U : wt_U} {σ : wt_St} {pc : Nat} {lv : List (Option wt_Q)} {st : List wt_Q}
theorem wt_bv_new (h : wt_Ok X cc nL own d Km) (L : wt_U) {idx ci m N : Nat} {C : String} {T : u_T} {ty : Nat → FieldType} {rs : List Nat} (hcf : wt_CF C T N ty) (hc : wt_cl[ci]? = some (C, T, N)) (hl0 : Cond.classLink own idx C ∈ wt_GT) (hi0 : Cond.instantiable C N ∈ wt_GT) (hj0 : Cond.initialized C ∈ wt_GT) (hfs : ∀ j, j < N → defaultValue (ty j) = vp_V (wt_fs0 rs) j)
    (hL : wt_LAY[next]? = some (ci + 3, m, rs)) (hbo : wt_bOk next L = true) (hown : wt_own next L rs = true) (hst : st.all (wt_qlt next) = true) (hlv : wt_lvlt next lv = true) (hk : k + 1 ≤ Km) (hn : n + N ≤ 16 * Km) (hd : decode cc pc = .ok (.new idx, 3))
    (kk : wt_BV X v0 (k + 1) (n + N) (next + 1) (L ++ U) σ (pc + 3) lv (.inr next :: st)) : wt_BV X v0 k n next U σ pc lv st := by
  intro ad H locs ls ce sl h1 h2 hw hS hl
  have hw' := hw
  obtain ⟨w1, w2, w3, w4⟩ := hw
  have hKK := h.2.2.2.2.2.2.1
  have hts := h.2.2.2.2.2.1
  have r3 := h.2.2.2.2.2.2.2.2.2.2.1
  have r4 := h.2.2.2.2.2.2.2.2.2.2.2.1
  refine va_new h.1 h.2.1 hts hcf.1 ty hcf.2.1 h.2.2.2.2.1 (hts _ hl0) (hts _ hi0) (hts _ hj0) hKK w2 w3 hS wt_Asz hc hfs (by omega) (by omega) hd fun q H1 g2 g3 g4 => ?_
  have hlt : next < wt_LAY.length := (List.getElem?_eq_some_iff.mp hL).1
  have := kk (wt_grow ad next q) H1 locs ls (ce + 1) (sl + N) (by omega) (by omega) (wt_Bw_grow hlt hbo hw' (wt_pe_zo hL w4 hown) g2 g3) g4 (by rw [wt_lv_grow hlv]; exact hl)
  have e4 : (Sum.inr next :: st : List wt_Q).map (wt_qv (wt_grow ad next q)) = .ref q :: st.map (wt_qv ad) := by
    rw [List.map_cons, wt_st_grow hst]
    refine congrArg (· :: _) ?_
    show Value.ref _ = _
    unfold wt_grow
    rw [if_pos rfl]
  rw [e4] at this
  exact this
theorem wt_bv_dup (h : wt_Ok X cc nL own d Km) {v : wt_Q} (hd : decode cc pc = .ok (.dup, 1)) (kk : wt_BV X v0 k n next U σ (pc + 1) lv (v :: v :: st)) : wt_BV X v0 k n next U σ pc lv (v :: st) :=
  fun ad H locs ls ce sl h1 h2 hw hS hl => lv_dup h.1 h.2.1 hd (by cases v <;> rfl) (kk ad H locs ls ce sl h1 h2 hw hS hl)
theorem wt_bv_astore_n (h : wt_Ok X cc nL own d Km) {i : Fin 4} {j x : Nat} (lv' : List (Option wt_Q)) (hd : decode cc pc = .ok (.astore_n i, 1)) (hin : (i : Nat) < nL) (hij : (i : Nat) = j + 1) (hl' : lv.set j (some (.inr x)) = lv') (kk : wt_BV X v0 k n next U σ (pc + 1) lv' st) : wt_BV X v0 k n next U σ pc lv (.inr x :: st) := by
  intro ad H locs ls ce sl h1 h2 hw hS hl
  obtain ⟨ls', e0, hl2⟩ := hl.store (i := (i : Nat)) (v := .ref (ad x)) (by rw [h.2.2.2.1]; exact hin) rfl
  have hl3 : wt_lo ls' (wt_xn X) (some v0 :: lv'.map (Option.map (wt_qv ad))) := by
    rw [← hl', List.map_set]
    rw [hij] at hl2
    exact hl2
  have e : storeLocals ls (i : Nat) (.ref (ad x)) = some ls' := e0
  obtain ⟨hexec, hb, -⟩ := h
  show wt_W X H locs ce sl (F0 (wt_xm X) pc ls (.ref (ad x) :: st.map (wt_qv ad)))
  intro T hT Y
  obtain ⟨t, a, b⟩ := kk ad H locs ls' ce sl h1 h2 hw hS hl3 T hT Y
  refine ⟨t, ?_, b⟩
  jvm_step Y.here [Y.here.top, ↓top_set Y.here.top, hexec, hb, hd, e]
  exact ⟨rfl, a⟩
theorem wt_bv_callI (h : wt_Ok X cc nL own d Km) {S : wt_SP} (hSx : wt_Fx S) (hS0 : S (wt_A (wt_xw X) (wt_xs X).heap.size) (wt_xs X) (wt_xs X).heap) {idx : Nat} {y : MethodName} {b : ByteArray} {m kk0 dd k2 n1 j : Nat} {As st0 : List wt_Q} {U' : wt_U} {σ' : wt_St} (hyi : y.name = "<init>") (hl0 : Cond.methodLink own idx y ∈ wt_GT) (hi0 : Cond.instanceMethod y ∈ wt_GT) (hj0 : Cond.initialized y.cls ∈ wt_GT) (hy : wt_Ya y b m none kk0)
    (hc : ∀ ad : Nat → Nat, wt_CtrB S (wt_xl X) (wt_at (wt_xw X) ad (fun i => i < next)) y b m dd k2 (.inr j :: As) next n1 U U' σ σ') (hd1 : dd + 1 ≤ d) (hlen : As.length = kk0) (hst : As.reverse ++ .inr j :: st = st0) (hro : st.length ≤ 8) (hk : k + k2 ≤ Km) (hn : n + 16 * k2 ≤ 16 * Km) (hn1 : next ≤ n1) (hz : wt_zero σ' n1) (hq : st.all (wt_qlt next) = true) (hlv : wt_lvlt next lv = true) (hd : decode cc pc = .ok (.invokespecial idx, 3))
    (kk : wt_BV X v0 (k + k2) (n + 16 * k2) n1 U' σ' (pc + 3) lv st) : wt_BV X v0 k n next U σ pc lv st0 := by
  intro ad H locs ls ce sl h1 h2 hw hS hl
  obtain ⟨hx, hb, hml, hn0, hown, hts, hKK, hN, r1, r2, r3, r4, hlk, hFX⟩ := id h
  obtain ⟨w1, w2, w3, w4⟩ := hw
  have hA : ∀ i, i < next → wt_A (wt_xw X) (wt_xs X).heap.size (ad i) := fun i hi => w3.2 i _ (wt_bw_get hi)
  have hAA : ∀ q : Nat, wt_A (wt_at (wt_xw X) ad (fun i => i < next)) H.size q → wt_A (wt_xw X) (wt_xs X).heap.size q := fun q hq => by
    rcases hq with ⟨i, hi, rfl⟩ | hq
    · exact hA i hi
    · exact Or.inr (Nat.le_trans hS.1 hq)
  have hps : PreS (wt_xs X) H (wt_PcB (wt_at (wt_xw X) ad (fun i => i < next)) S ((.inr j :: As : List wt_Q).map (wt_qv ad)) σ U next H.size) ((.inr j :: As : List wt_Q).map (wt_qv ad)) := ⟨wt_blindB _ hSx _ _ _ _ _, fun V hV hW => by
    subst hV
    exact ⟨rfl, rfl, ⟨w2, w3.1, fun i q hi => by
      have hl2 : i < next := by
        have := (List.getElem?_eq_some_iff.mp hi).1
        simpa [wt_bw] using this
      rw [wt_bw_get hl2] at hi
      cases hi
      exact Or.inl ⟨i, hl2, rfl⟩⟩, va_K.moved hW.alike hKK, hN.warm hW, wt_FX_fx.2.2.1 _ _ _ _ hW (wt_FX_fx.2.1 _ _ _ _ (wt_FX_fx.1 _ _ _ _ hFX hS.2.1) hAA), hSx.2.2.1 _ _ _ _ hW (hSx.2.1 _ _ _ _ (hSx.1 _ _ _ _ hS0 hS.2.1) hAA)⟩⟩
  have hfix : CallFix (wt_xp X) (wt_xm X) (wt_xc X) cc nL (wt_xs X) (wt_xa X) wt_GT own := ⟨hx, hb, hml, hown, hts⟩
  have hroo : (wt_rmB dd k2).frames + 1 ≤ (wt_xR X).frames ∧ 8 + (m + 11) + (wt_rmB dd k2).locals ≤ (wt_xR X).locals := by
    have := hy.2.2
    exact ⟨by show dd + 1 ≤ _; omega, by show 8 + (m + 11) + 64 * dd ≤ _; omega⟩
  have hsz : ls.size = nL := by rw [hl.1, hn0]
  have hst2 : st0.map (wt_qv ad) = (As.map (wt_qv ad)).reverse ++ .ref (ad j) :: st.map (wt_qv ad) := by
    rw [← hst, List.map_append, List.map_reverse]
    rfl
  have run := va_runI hfix (hc ad H.size) (index := idx) (n := kk0) (As := As.map (wt_qv ad)) (b := ad j) (rest := st.map (wt_qv ad)) (g := F0 (wt_xm X) pc ls (st0.map (wt_qv ad))) (cells := ce) (slots := sl) (locs := locs) (p := wt_xp X) (e := wt_xe X) (below := wt_xb X) (meth := wt_xM X)
    ⟨callB_of kk0 hts (wt_goodG h hy.2.1) rfl rfl rfl (hts _ hj0) (hts _ hl0) hy.1 hroo, hyi, hts _ hi0⟩ hps rfl (by rw [List.length_map]; exact hlen) hsz hst2 (by show 2 * 0 + _ ≤ 8; rw [wt_qcsum]; omega) hd ⟨by omega, by omega⟩
  intro T hT Y
  obtain ⟨v, s0, t, T', L, e0, Y', hL, e1, e2, ⟨⟨hv, ad', ha, hP, hD⟩, hz2, hk2⟩, stp⟩ := run T hT Y
  cases hv
  rw [e0] at hz2 hk2
  obtain ⟨t2, a1, b1⟩ := kk ad' T'.heap (locs ++ L) ls (ce + k2) (sl + 16 * k2) (by omega) (by omega)
    ⟨fun i hi => ⟨(ha i (w1 i hi).2).trans (w1 i hi).1, Nat.lt_of_lt_of_le (w1 i hi).2 hn1⟩, by rw [e1]; exact hP, ⟨hD.1, fun i q hi => hAA _ (hD.2 i q hi)⟩, hz⟩
    ⟨Nat.le_trans hS.1 (by rw [e1]; exact hz2), fun q g1 g2 => by
      rw [e1, hk2 q (Nat.lt_of_lt_of_le g1 hS.1) (fun z => g2 (hAA q z))]
      exact hS.2.1 q g1 g2, fun q hq => by
      rcases List.mem_append.mp hq with g | g
      · exact hS.2.2 q g
      · exact hAA _ (hL q g)⟩ (by rw [wt_same_lv ha hlv]; exact hl) T' rfl Y'
  rw [wt_same_st ha hq] at a1
  exact ⟨t2, stp t2 a1, b1⟩
end WBV
def wb604lawb_code_r51 : List (List Nat) := [4, 6, 167, 250, 129, 4, 172] :: []
def wb604lawb_code_r50 : List (List Nat) := [0, 28, 43, 42, 21, 4, 4, 96, 46, 182, 0, 229, 44, 42, 21, 4, 4, 96, 46, 182, 0, 232, 159, 0, 5, 3, 172, 132] :: wb604lawb_code_r51
def wb604lawb_code_r49 : List (List Nat) := [6, 167, 0, 54, 43, 182, 0, 221, 87, 44, 182, 0, 224, 87, 167, 0, 41, 43, 182, 0, 225, 87, 44, 182, 0, 228, 87, 167] :: wb604lawb_code_r50
def wb604lawb_code_r48 : List (List Nat) := [6, 167, 0, 82, 43, 42, 21, 4, 4, 96, 46, 45, 184, 0, 218, 54, 5, 44, 42, 21, 4, 4, 96, 46, 182, 0, 220, 54] :: wb604lawb_code_r49
def wb604lawb_code_r47 : List (List Nat) := [21, 4, 5, 96, 46, 45, 184, 0, 215, 54, 5, 44, 42, 21, 4, 4, 96, 46, 42, 21, 4, 5, 96, 46, 182, 0, 217, 54] :: wb604lawb_code_r48
def wb604lawb_code_r46 : List (List Nat) := [184, 0, 212, 54, 5, 44, 42, 21, 4, 4, 96, 46, 182, 0, 214, 54, 6, 167, 0, 122, 43, 42, 21, 4, 4, 96, 46, 42] :: wb604lawb_code_r47
def wb604lawb_code_r45 : List (List Nat) := [184, 0, 209, 54, 5, 44, 42, 21, 4, 4, 96, 46, 182, 0, 211, 54, 6, 167, 0, 150, 43, 42, 21, 4, 4, 96, 46, 45] :: wb604lawb_code_r46
def wb604lawb_code_r44 : List (List Nat) := [184, 0, 206, 54, 5, 44, 42, 21, 4, 4, 96, 46, 182, 0, 208, 54, 6, 167, 0, 178, 43, 42, 21, 4, 4, 96, 46, 45] :: wb604lawb_code_r45
def wb604lawb_code_r43 : List (List Nat) := [42, 21, 4, 4, 96, 46, 42, 21, 4, 5, 96, 46, 182, 0, 205, 54, 6, 167, 0, 206, 43, 42, 21, 4, 4, 96, 46, 45] :: wb604lawb_code_r44
def wb604lawb_code_r42 : List (List Nat) := [44, 182, 0, 202, 87, 167, 0, 246, 43, 42, 21, 4, 4, 96, 46, 42, 21, 4, 5, 96, 46, 45, 184, 0, 203, 54, 5, 44] :: wb604lawb_code_r43
def wb604lawb_code_r41 : List (List Nat) := [96, 46, 45, 184, 0, 196, 54, 5, 44, 42, 21, 4, 4, 96, 46, 182, 0, 198, 54, 6, 167, 1, 3, 43, 182, 0, 199, 87] :: wb604lawb_code_r42
def wb604lawb_code_r40 : List (List Nat) := [96, 46, 45, 184, 0, 193, 54, 5, 44, 42, 21, 4, 4, 96, 46, 182, 0, 195, 54, 6, 167, 1, 31, 43, 42, 21, 4, 4] :: wb604lawb_code_r41
def wb604lawb_code_r39 : List (List Nat) := [96, 46, 182, 0, 188, 54, 6, 167, 1, 72, 43, 182, 0, 189, 87, 44, 182, 0, 192, 87, 167, 1, 59, 43, 42, 21, 4, 4] :: wb604lawb_code_r40
def wb604lawb_code_r38 : List (List Nat) := [184, 0, 186, 54, 5, 44, 42, 21, 4, 4, 96, 46, 42, 21, 4, 5, 96, 46, 42, 21, 4, 6, 96, 46, 42, 21, 4, 7] :: wb604lawb_code_r39
def wb604lawb_code_r37 : List (List Nat) := [1, 136, 43, 42, 21, 4, 4, 96, 46, 42, 21, 4, 5, 96, 46, 42, 21, 4, 6, 96, 46, 42, 21, 4, 7, 96, 46, 45] :: wb604lawb_code_r38
def wb604lawb_code_r36 : List (List Nat) := [1, 164, 43, 42, 21, 4, 4, 96, 46, 45, 184, 0, 183, 54, 5, 44, 42, 21, 4, 4, 96, 46, 182, 0, 185, 54, 6, 167] :: wb604lawb_code_r37
def wb604lawb_code_r35 : List (List Nat) := [4, 4, 96, 46, 42, 21, 4, 5, 96, 46, 42, 21, 4, 6, 96, 46, 42, 21, 4, 7, 96, 46, 182, 0, 182, 54, 6, 167] :: wb604lawb_code_r36
def wb604lawb_code_r34 : List (List Nat) := [46, 42, 21, 4, 5, 96, 46, 42, 21, 4, 6, 96, 46, 42, 21, 4, 7, 96, 46, 45, 184, 0, 179, 54, 5, 44, 42, 21] :: wb604lawb_code_r35
def wb604lawb_code_r33 : List (List Nat) := [96, 46, 42, 21, 4, 5, 96, 46, 42, 21, 4, 6, 96, 46, 182, 0, 178, 54, 6, 167, 1, 228, 43, 42, 21, 4, 4, 96] :: wb604lawb_code_r34
def wb604lawb_code_r32 : List (List Nat) := [21, 4, 4, 96, 46, 42, 21, 4, 5, 96, 46, 42, 21, 4, 6, 96, 46, 45, 184, 0, 176, 54, 5, 44, 42, 21, 4, 4] :: wb604lawb_code_r33
def wb604lawb_code_r31 : List (List Nat) := [184, 0, 173, 54, 5, 44, 42, 21, 4, 4, 96, 46, 42, 21, 4, 5, 96, 46, 182, 0, 175, 54, 6, 167, 2, 24, 43, 42] :: wb604lawb_code_r32
def wb604lawb_code_r30 : List (List Nat) := [42, 21, 4, 5, 96, 46, 182, 0, 172, 54, 6, 167, 2, 64, 43, 42, 21, 4, 4, 96, 46, 42, 21, 4, 5, 96, 46, 45] :: wb604lawb_code_r31
def wb604lawb_code_r29 : List (List Nat) := [2, 104, 43, 42, 21, 4, 4, 96, 46, 42, 21, 4, 5, 96, 46, 45, 184, 0, 170, 54, 5, 44, 42, 21, 4, 4, 96, 46] :: wb604lawb_code_r30
def wb604lawb_code_r28 : List (List Nat) := [2, 132, 43, 42, 21, 4, 4, 96, 46, 45, 184, 0, 167, 54, 5, 44, 42, 21, 4, 4, 96, 46, 182, 0, 169, 54, 6, 167] :: wb604lawb_code_r29
def wb604lawb_code_r27 : List (List Nat) := [5, 96, 46, 45, 184, 0, 164, 54, 5, 44, 42, 21, 4, 4, 96, 46, 42, 21, 4, 5, 96, 46, 182, 0, 166, 54, 6, 167] :: wb604lawb_code_r28
def wb604lawb_code_r26 : List (List Nat) := [4, 4, 96, 46, 42, 21, 4, 5, 96, 46, 182, 0, 163, 54, 6, 167, 2, 172, 43, 42, 21, 4, 4, 96, 46, 42, 21, 4] :: wb604lawb_code_r27
def wb604lawb_code_r25 : List (List Nat) := [160, 54, 6, 167, 2, 212, 43, 42, 21, 4, 4, 96, 46, 42, 21, 4, 5, 96, 46, 45, 184, 0, 161, 54, 5, 44, 42, 21] :: wb604lawb_code_r26
def wb604lawb_code_r24 : List (List Nat) := [46, 42, 21, 4, 5, 96, 46, 45, 184, 0, 158, 54, 5, 44, 42, 21, 4, 4, 96, 46, 42, 21, 4, 5, 96, 46, 182, 0] :: wb604lawb_code_r25
def wb604lawb_code_r23 : List (List Nat) := [46, 45, 184, 0, 155, 54, 5, 44, 42, 21, 4, 4, 96, 46, 182, 0, 157, 54, 6, 167, 2, 252, 43, 42, 21, 4, 4, 96] :: wb604lawb_code_r24
def wb604lawb_code_r22 : List (List Nat) := [46, 45, 184, 0, 152, 54, 5, 44, 42, 21, 4, 4, 96, 46, 182, 0, 154, 54, 6, 167, 3, 24, 43, 42, 21, 4, 4, 96] :: wb604lawb_code_r23
def wb604lawb_code_r21 : List (List Nat) := [5, 44, 42, 21, 4, 4, 96, 46, 42, 21, 4, 5, 96, 46, 182, 0, 151, 54, 6, 167, 3, 52, 43, 42, 21, 4, 4, 96] :: wb604lawb_code_r22
def wb604lawb_code_r20 : List (List Nat) := [96, 46, 182, 0, 148, 54, 6, 167, 3, 92, 43, 42, 21, 4, 4, 96, 46, 42, 21, 4, 5, 96, 46, 45, 184, 0, 149, 54] :: wb604lawb_code_r21
def wb604lawb_code_r19 : List (List Nat) := [21, 4, 4, 96, 46, 42, 21, 4, 5, 96, 46, 45, 184, 0, 146, 54, 5, 44, 42, 21, 4, 4, 96, 46, 42, 21, 4, 5] :: wb604lawb_code_r20
def wb604lawb_code_r18 : List (List Nat) := [184, 0, 143, 54, 5, 44, 42, 21, 4, 4, 96, 46, 42, 21, 4, 5, 96, 46, 182, 0, 145, 54, 6, 167, 3, 132, 43, 42] :: wb604lawb_code_r19
def wb604lawb_code_r17 : List (List Nat) := [42, 21, 4, 6, 96, 46, 182, 0, 142, 54, 6, 167, 3, 172, 43, 42, 21, 4, 4, 96, 46, 42, 21, 4, 5, 96, 46, 45] :: wb604lawb_code_r18
def wb604lawb_code_r16 : List (List Nat) := [5, 96, 46, 42, 21, 4, 6, 96, 46, 45, 184, 0, 139, 54, 5, 44, 42, 21, 4, 4, 96, 46, 42, 21, 4, 5, 96, 46] :: wb604lawb_code_r17
def wb604lawb_code_r15 : List (List Nat) := [4, 4, 96, 46, 42, 21, 4, 5, 96, 46, 182, 0, 138, 54, 6, 167, 3, 224, 43, 42, 21, 4, 4, 96, 46, 42, 21, 4] :: wb604lawb_code_r16
def wb604lawb_code_r14 : List (List Nat) := [134, 54, 6, 167, 4, 8, 43, 42, 21, 4, 4, 96, 46, 42, 21, 4, 5, 96, 46, 45, 184, 0, 135, 54, 5, 44, 42, 21] :: wb604lawb_code_r15
def wb604lawb_code_r13 : List (List Nat) := [0, 131, 87, 167, 4, 36, 43, 42, 21, 4, 4, 96, 46, 45, 184, 0, 132, 54, 5, 44, 42, 21, 4, 4, 96, 46, 182, 0] :: wb604lawb_code_r14
def wb604lawb_code_r12 : List (List Nat) := [45, 184, 0, 124, 54, 5, 44, 42, 21, 4, 4, 96, 46, 182, 0, 126, 54, 6, 167, 4, 49, 43, 182, 0, 127, 87, 44, 182] :: wb604lawb_code_r13
def wb604lawb_code_r11 : List (List Nat) := [45, 184, 0, 121, 54, 5, 44, 42, 21, 4, 4, 96, 46, 182, 0, 123, 54, 6, 167, 4, 77, 43, 42, 21, 4, 4, 96, 46] :: wb604lawb_code_r12
def wb604lawb_code_r10 : List (List Nat) := [45, 184, 0, 115, 54, 5, 44, 42, 21, 4, 4, 96, 46, 182, 0, 120, 54, 6, 167, 4, 105, 43, 42, 21, 4, 4, 96, 46] :: wb604lawb_code_r11
def wb604lawb_code_r9 : List (List Nat) := [96, 46, 42, 21, 4, 7, 96, 46, 42, 21, 4, 8, 96, 46, 182, 0, 114, 87, 167, 4, 133, 43, 42, 21, 4, 4, 96, 46] :: wb604lawb_code_r10
def wb604lawb_code_r8 : List (List Nat) := [46, 42, 21, 4, 8, 96, 46, 182, 0, 110, 87, 44, 42, 21, 4, 4, 96, 46, 42, 21, 4, 5, 96, 46, 42, 21, 4, 6] :: wb604lawb_code_r9
def wb604lawb_code_r7 : List (List Nat) := [0, 0, 5, 82, 43, 42, 21, 4, 4, 96, 46, 42, 21, 4, 5, 96, 46, 42, 21, 4, 6, 96, 46, 42, 21, 4, 7, 96] :: wb604lawb_code_r8
def wb604lawb_code_r6 : List (List Nat) := [0, 0, 4, 160, 0, 0, 4, 188, 0, 0, 4, 216, 0, 0, 4, 244, 0, 0, 5, 28, 0, 0, 5, 56, 0, 0, 5, 69] :: wb604lawb_code_r7
def wb604lawb_code_r5 : List (List Nat) := [0, 0, 3, 202, 0, 0, 3, 230, 0, 0, 4, 38, 0, 0, 4, 51, 0, 0, 4, 79, 0, 0, 4, 107, 0, 0, 4, 120] :: wb604lawb_code_r6
def wb604lawb_code_r4 : List (List Nat) := [0, 0, 2, 154, 0, 0, 2, 194, 0, 0, 2, 234, 0, 0, 3, 6, 0, 0, 3, 46, 0, 0, 3, 86, 0, 0, 3, 138] :: wb604lawb_code_r5
def wb604lawb_code_r3 : List (List Nat) := [0, 0, 1, 142, 0, 0, 1, 194, 0, 0, 1, 234, 0, 0, 2, 18, 0, 0, 2, 58, 0, 0, 2, 86, 0, 0, 2, 114] :: wb604lawb_code_r4
def wb604lawb_code_r2 : List (List Nat) := [0, 0, 0, 160, 0, 0, 0, 233, 0, 0, 1, 5, 0, 0, 1, 33, 0, 0, 1, 61, 0, 0, 1, 74, 0, 0, 1, 102] :: wb604lawb_code_r3
def wb604lawb_code_r1 : List (List Nat) := [6, 100, 163, 5, 123, 42, 21, 4, 46, 16, 63, 126, 170, 0, 0, 0, 0, 0, 5, 107, 0, 0, 0, 0, 0, 0, 0, 35] :: wb604lawb_code_r2
def wb604lawb_code_r0 : List (List Nat) := [187, 0, 8, 89, 183, 0, 106, 76, 187, 0, 107, 89, 183, 0, 109, 77, 4, 188, 11, 78, 3, 54, 4, 21, 4, 42, 190, 16] :: wb604lawb_code_r1
set_option maxRecDepth 100000 in
theorem wb604lawb_code_c0 : wt_cs code 0 wb604lawb_code_r0 := wt_cs_of (by decide +kernel)
theorem wb604lawb_code_c1 : wt_cs code 28 wb604lawb_code_r1 := wt_cs_tl (m := 28) wb604lawb_code_c0 rfl rfl
theorem wb604lawb_code_c2 : wt_cs code 56 wb604lawb_code_r2 := wt_cs_tl (m := 28) wb604lawb_code_c1 rfl rfl
theorem wb604lawb_code_c3 : wt_cs code 84 wb604lawb_code_r3 := wt_cs_tl (m := 28) wb604lawb_code_c2 rfl rfl
theorem wb604lawb_code_c4 : wt_cs code 112 wb604lawb_code_r4 := wt_cs_tl (m := 28) wb604lawb_code_c3 rfl rfl
theorem wb604lawb_code_c5 : wt_cs code 140 wb604lawb_code_r5 := wt_cs_tl (m := 28) wb604lawb_code_c4 rfl rfl
theorem wb604lawb_code_c6 : wt_cs code 168 wb604lawb_code_r6 := wt_cs_tl (m := 28) wb604lawb_code_c5 rfl rfl
theorem wb604lawb_code_c7 : wt_cs code 196 wb604lawb_code_r7 := wt_cs_tl (m := 28) wb604lawb_code_c6 rfl rfl
theorem wb604lawb_code_c8 : wt_cs code 224 wb604lawb_code_r8 := wt_cs_tl (m := 28) wb604lawb_code_c7 rfl rfl
theorem wb604lawb_code_c9 : wt_cs code 252 wb604lawb_code_r9 := wt_cs_tl (m := 28) wb604lawb_code_c8 rfl rfl
theorem wb604lawb_code_c10 : wt_cs code 280 wb604lawb_code_r10 := wt_cs_tl (m := 28) wb604lawb_code_c9 rfl rfl
theorem wb604lawb_code_c11 : wt_cs code 308 wb604lawb_code_r11 := wt_cs_tl (m := 28) wb604lawb_code_c10 rfl rfl
theorem wb604lawb_code_c12 : wt_cs code 336 wb604lawb_code_r12 := wt_cs_tl (m := 28) wb604lawb_code_c11 rfl rfl
theorem wb604lawb_code_c13 : wt_cs code 364 wb604lawb_code_r13 := wt_cs_tl (m := 28) wb604lawb_code_c12 rfl rfl
theorem wb604lawb_code_c14 : wt_cs code 392 wb604lawb_code_r14 := wt_cs_tl (m := 28) wb604lawb_code_c13 rfl rfl
theorem wb604lawb_code_c15 : wt_cs code 420 wb604lawb_code_r15 := wt_cs_tl (m := 28) wb604lawb_code_c14 rfl rfl
theorem wb604lawb_code_c16 : wt_cs code 448 wb604lawb_code_r16 := wt_cs_tl (m := 28) wb604lawb_code_c15 rfl rfl
theorem wb604lawb_code_c17 : wt_cs code 476 wb604lawb_code_r17 := wt_cs_tl (m := 28) wb604lawb_code_c16 rfl rfl
theorem wb604lawb_code_c18 : wt_cs code 504 wb604lawb_code_r18 := wt_cs_tl (m := 28) wb604lawb_code_c17 rfl rfl
theorem wb604lawb_code_c19 : wt_cs code 532 wb604lawb_code_r19 := wt_cs_tl (m := 28) wb604lawb_code_c18 rfl rfl
theorem wb604lawb_code_c20 : wt_cs code 560 wb604lawb_code_r20 := wt_cs_tl (m := 28) wb604lawb_code_c19 rfl rfl
theorem wb604lawb_code_c21 : wt_cs code 588 wb604lawb_code_r21 := wt_cs_tl (m := 28) wb604lawb_code_c20 rfl rfl
theorem wb604lawb_code_c22 : wt_cs code 616 wb604lawb_code_r22 := wt_cs_tl (m := 28) wb604lawb_code_c21 rfl rfl
theorem wb604lawb_code_c23 : wt_cs code 644 wb604lawb_code_r23 := wt_cs_tl (m := 28) wb604lawb_code_c22 rfl rfl
theorem wb604lawb_code_c24 : wt_cs code 672 wb604lawb_code_r24 := wt_cs_tl (m := 28) wb604lawb_code_c23 rfl rfl
theorem wb604lawb_code_c25 : wt_cs code 700 wb604lawb_code_r25 := wt_cs_tl (m := 28) wb604lawb_code_c24 rfl rfl
theorem wb604lawb_code_c26 : wt_cs code 728 wb604lawb_code_r26 := wt_cs_tl (m := 28) wb604lawb_code_c25 rfl rfl
theorem wb604lawb_code_c27 : wt_cs code 756 wb604lawb_code_r27 := wt_cs_tl (m := 28) wb604lawb_code_c26 rfl rfl
theorem wb604lawb_code_c28 : wt_cs code 784 wb604lawb_code_r28 := wt_cs_tl (m := 28) wb604lawb_code_c27 rfl rfl
theorem wb604lawb_code_c29 : wt_cs code 812 wb604lawb_code_r29 := wt_cs_tl (m := 28) wb604lawb_code_c28 rfl rfl
theorem wb604lawb_code_c30 : wt_cs code 840 wb604lawb_code_r30 := wt_cs_tl (m := 28) wb604lawb_code_c29 rfl rfl
theorem wb604lawb_code_c31 : wt_cs code 868 wb604lawb_code_r31 := wt_cs_tl (m := 28) wb604lawb_code_c30 rfl rfl
theorem wb604lawb_code_c32 : wt_cs code 896 wb604lawb_code_r32 := wt_cs_tl (m := 28) wb604lawb_code_c31 rfl rfl
theorem wb604lawb_code_c33 : wt_cs code 924 wb604lawb_code_r33 := wt_cs_tl (m := 28) wb604lawb_code_c32 rfl rfl
theorem wb604lawb_code_c34 : wt_cs code 952 wb604lawb_code_r34 := wt_cs_tl (m := 28) wb604lawb_code_c33 rfl rfl
theorem wb604lawb_code_c35 : wt_cs code 980 wb604lawb_code_r35 := wt_cs_tl (m := 28) wb604lawb_code_c34 rfl rfl
theorem wb604lawb_code_c36 : wt_cs code 1008 wb604lawb_code_r36 := wt_cs_tl (m := 28) wb604lawb_code_c35 rfl rfl
theorem wb604lawb_code_c37 : wt_cs code 1036 wb604lawb_code_r37 := wt_cs_tl (m := 28) wb604lawb_code_c36 rfl rfl
theorem wb604lawb_code_c38 : wt_cs code 1064 wb604lawb_code_r38 := wt_cs_tl (m := 28) wb604lawb_code_c37 rfl rfl
theorem wb604lawb_code_c39 : wt_cs code 1092 wb604lawb_code_r39 := wt_cs_tl (m := 28) wb604lawb_code_c38 rfl rfl
theorem wb604lawb_code_c40 : wt_cs code 1120 wb604lawb_code_r40 := wt_cs_tl (m := 28) wb604lawb_code_c39 rfl rfl
theorem wb604lawb_code_c41 : wt_cs code 1148 wb604lawb_code_r41 := wt_cs_tl (m := 28) wb604lawb_code_c40 rfl rfl
theorem wb604lawb_code_c42 : wt_cs code 1176 wb604lawb_code_r42 := wt_cs_tl (m := 28) wb604lawb_code_c41 rfl rfl
theorem wb604lawb_code_c43 : wt_cs code 1204 wb604lawb_code_r43 := wt_cs_tl (m := 28) wb604lawb_code_c42 rfl rfl
theorem wb604lawb_code_c44 : wt_cs code 1232 wb604lawb_code_r44 := wt_cs_tl (m := 28) wb604lawb_code_c43 rfl rfl
theorem wb604lawb_code_c45 : wt_cs code 1260 wb604lawb_code_r45 := wt_cs_tl (m := 28) wb604lawb_code_c44 rfl rfl
theorem wb604lawb_code_c46 : wt_cs code 1288 wb604lawb_code_r46 := wt_cs_tl (m := 28) wb604lawb_code_c45 rfl rfl
theorem wb604lawb_code_c47 : wt_cs code 1316 wb604lawb_code_r47 := wt_cs_tl (m := 28) wb604lawb_code_c46 rfl rfl
theorem wb604lawb_code_c48 : wt_cs code 1344 wb604lawb_code_r48 := wt_cs_tl (m := 28) wb604lawb_code_c47 rfl rfl
theorem wb604lawb_code_c49 : wt_cs code 1372 wb604lawb_code_r49 := wt_cs_tl (m := 28) wb604lawb_code_c48 rfl rfl
theorem wb604lawb_code_c50 : wt_cs code 1400 wb604lawb_code_r50 := wt_cs_tl (m := 28) wb604lawb_code_c49 rfl rfl
theorem wb604lawb_code_c51 : wt_cs code 1428 wb604lawb_code_r51 := wt_cs_tl (m := 28) wb604lawb_code_c50 rfl rfl
theorem wld_16 : decode code 16 = .ok (.iconst 1, 1) := wt_op4 wb604lawb_code_c0 16 rfl rfl
theorem wld_17 : decode code 17 = .ok (.newarray .long, 2) := by decide +kernel
theorem wld_19 : decode code 19 = .ok (.astore_n 3, 1) := wt_op78 wb604lawb_code_c0 19 rfl rfl
theorem wld_20 : decode code 20 = .ok (.iconst 0, 1) := wt_op3 wb604lawb_code_c0 20 rfl rfl
theorem wld_21 : decode code 21 = .ok (.istore 4, 2) := wt_op54 wb604lawb_code_c0 21 rfl rfl
set_option maxRecDepth 100000 in
/-- all is made: from here on the world is whole -/
theorem wt_law_conv {X : wt_X} {d Km k : Nat} {σ : wt_St} (h : wt_Ok X code 7 "WornTypeLaw" d Km) (hdm : ∀ i, ¬ wt_dom (wt_xw X) i) (hwl : Cond.arrayClass .long ∈ wt_GT) {b L : Nat} {xs : Nat → Int32} (hscr : va_X b L xs (wt_xs X) (wt_xs X).heap) (hbl : b < (wt_xs X).heap.size) (hK : k + 1 ≤ Km)
    (kk : ∀ (X1 : wt_X) (o : Nat), X1.1 = X.1 → X1.2.2 = X.2.2 → (∀ i, wt_dom (wt_xw X1) i ↔ i < 321) → wt_OkO X1 o code 7 "WornTypeLaw" d Km → wt_scr X1 o b L xs → (∀ q, wt_Ao (wt_xw X1) o (wt_xs X1).heap.size q → (wt_xs X1).heap.size ≤ q) → wt_O X1 o (k + 1) σ 23 [some (.ref b), some (.ref (wt_ad (wt_xw X1) 0)), some (.ref (wt_ad (wt_xw X1) 108)), some (.ref o), some (.int 0), none, none] []) : wt_BV X (.ref b) k (16 * k) 321 [] σ 16 [some (.inr 0), some (.inr 108), none, none, none, none] [] := by
  intro ad H locs ls ce sl h1 h2 hw hS hl
  obtain ⟨w1, w2, w3, w4⟩ := hw
  have hts := h.2.2.2.2.2.1
  have r3 := h.2.2.2.2.2.2.2.2.2.2.1
  have r4 := h.2.2.2.2.2.2.2.2.2.2.2.1
  have hge : ∀ i, i < 321 → (wt_xs X).heap.size ≤ ad i := fun i hi => by
    rcases w3.2 i _ (wt_bw_get hi) with ⟨j, hj, -⟩ | z
    · exact absurd hj (hdm j)
    · exact z
  have hlt : ∀ i, i < 321 → ad i < H.size := fun i hi => (w2 i _ (wt_bw_get hi)).lt
  refine lv_iconst (v := 1) h.1 h.2.1 wld_16 (by decide) ?_
  refine va_newaK (atype := .long) (g := F0 (wt_xm X) 17 ls [.int 1]) (rest := []) (N := 1) h.1 h.2.1 (hts _ hwl) rfl wld_17 rfl (by decide) (by decide) (by decide) (by omega) (by omega) rfl fun H1 cA e1 e2 e3 hAr hNm => ?_
  let X1 : wt_X := (X.1, wt_at (wt_xw X) ad (fun i => i < 321), X.2.2)
  have hA1 : ∀ q, wt_Ao (wt_xw X1) H.size (wt_xs X).heap.size q → (wt_xs X).heap.size ≤ q := by
    rintro q (rfl | ⟨i, hi, rfl⟩ | z)
    · exact hS.1
    · exact hge i hi
    · exact z
  have hFo : wt_FX (wt_Ao (wt_xw X1) H.size (wt_xs X).heap.size) (wt_xs X) (wt_xs X).heap := wt_FX_nar h.2.2.2.2.2.2.2.2.2.2.2.2.2 (fun q hq => Or.inr (hA1 q hq))
  have hOk : wt_OkO X1 H.size code 7 "WornTypeLaw" d Km := by
    refine ⟨?_, hFo, fun i hi e => absurd (hlt i hi) (by show ¬ ad i < H.size; rw [show ad i = H.size from e]; exact Nat.lt_irrefl _)⟩
    obtain ⟨a1, a2, a3, a4, a5, a6, a7, a8, a9, a10, a11, a12, a13, a14⟩ := h
    exact ⟨a1, a2, a3, a4, a5, a6, a7, a8, a9, a10, a11, a12, a13, wt_FX_nar hFo (fun q hq => Or.inr hq)⟩
  have hsc : wt_scr X1 H.size b L xs := ⟨hscr, hbl, fun z => absurd (hA1 b z) (Nat.not_le.mpr hbl)⟩
  have hwh := wt_whole_of (next := 321) (U := []) (a := 0) (b := 321) (by decide +kernel)
  have hWd : wt_Wd (wt_xw X1) σ H1 := ⟨fun i hi => by
    have hi2 : i < 321 := hi
    have h9 := w2 i _ (wt_bw_get hi2)
    rw [(hwh i ⟨Nat.zero_le _, hi2⟩).2] at h9
    exact h9.kept (e3 _ (hlt i hi2)), fun i j hi hj e => w3.1 i j _ _ (wt_bw_get hi) (wt_bw_get hj) e⟩
  have hout : wt_out H.size (wt_xs X) H1 := ⟨_, e1, hAr 1 _, (fun q => by cases q), arrV_size _ _ _⟩
  have hS1 : va_S (wt_Ao (wt_xw X1) H.size (wt_xs X).heap.size) (wt_xs X).heap H1 locs := ⟨Nat.le_trans hS.1 (by omega), fun q g1 g2 => (e3 q (Nat.lt_of_lt_of_le g1 hS.1)).trans (hS.2.1 q g1 (fun z => by
    rcases z with ⟨j, hj, -⟩ | z
    · exact hdm j hj
    · exact absurd g1 (Nat.not_lt.mpr z))), fun q hq => by
    rcases hS.2.2 q hq with ⟨j, hj, -⟩ | z
    · exact absurd hj (hdm j)
    · exact Or.inr (Or.inr z)⟩
  have K1 : wt_O X1 H.size (k + 1) σ 19 [some (.ref b), some (.ref (ad 0)), some (.ref (ad 108)), none, none, none, none] [.ref H.size] := by
    refine wt_o_astore_n hOk [some (.ref b), some (.ref (ad 0)), some (.ref (ad 108)), some (.ref H.size), none, none, none] wld_19 (by decide) rfl ?_
    refine wt_o_iconst hOk (0 : Int32) wld_20 (by decide) ?_
    refine wt_o_istore hOk [some (.ref b), some (.ref (ad 0)), some (.ref (ad 108)), some (.ref H.size), some (.int 0), none, none] wld_21 (by decide) rfl ?_
    exact kk X1 H.size rfl rfl (fun _ => Iff.rfl) hOk hsc hA1
  exact K1 H1 locs ls (ce + 1) (sl + 1) (by omega) (by omega) hWd hout hS1 hl
end WTQ1
-- 60.5lawp.lean.txt
section WTQ2
section WLA
def wb605lawp_code_r51 : List (List Nat) := [4, 6, 167, 250, 129, 4, 172] :: []
def wb605lawp_code_r50 : List (List Nat) := [0, 28, 43, 42, 21, 4, 4, 96, 46, 182, 0, 229, 44, 42, 21, 4, 4, 96, 46, 182, 0, 232, 159, 0, 5, 3, 172, 132] :: wb605lawp_code_r51
def wb605lawp_code_r49 : List (List Nat) := [6, 167, 0, 54, 43, 182, 0, 221, 87, 44, 182, 0, 224, 87, 167, 0, 41, 43, 182, 0, 225, 87, 44, 182, 0, 228, 87, 167] :: wb605lawp_code_r50
def wb605lawp_code_r48 : List (List Nat) := [6, 167, 0, 82, 43, 42, 21, 4, 4, 96, 46, 45, 184, 0, 218, 54, 5, 44, 42, 21, 4, 4, 96, 46, 182, 0, 220, 54] :: wb605lawp_code_r49
def wb605lawp_code_r47 : List (List Nat) := [21, 4, 5, 96, 46, 45, 184, 0, 215, 54, 5, 44, 42, 21, 4, 4, 96, 46, 42, 21, 4, 5, 96, 46, 182, 0, 217, 54] :: wb605lawp_code_r48
def wb605lawp_code_r46 : List (List Nat) := [184, 0, 212, 54, 5, 44, 42, 21, 4, 4, 96, 46, 182, 0, 214, 54, 6, 167, 0, 122, 43, 42, 21, 4, 4, 96, 46, 42] :: wb605lawp_code_r47
def wb605lawp_code_r45 : List (List Nat) := [184, 0, 209, 54, 5, 44, 42, 21, 4, 4, 96, 46, 182, 0, 211, 54, 6, 167, 0, 150, 43, 42, 21, 4, 4, 96, 46, 45] :: wb605lawp_code_r46
def wb605lawp_code_r44 : List (List Nat) := [184, 0, 206, 54, 5, 44, 42, 21, 4, 4, 96, 46, 182, 0, 208, 54, 6, 167, 0, 178, 43, 42, 21, 4, 4, 96, 46, 45] :: wb605lawp_code_r45
def wb605lawp_code_r43 : List (List Nat) := [42, 21, 4, 4, 96, 46, 42, 21, 4, 5, 96, 46, 182, 0, 205, 54, 6, 167, 0, 206, 43, 42, 21, 4, 4, 96, 46, 45] :: wb605lawp_code_r44
def wb605lawp_code_r42 : List (List Nat) := [44, 182, 0, 202, 87, 167, 0, 246, 43, 42, 21, 4, 4, 96, 46, 42, 21, 4, 5, 96, 46, 45, 184, 0, 203, 54, 5, 44] :: wb605lawp_code_r43
def wb605lawp_code_r41 : List (List Nat) := [96, 46, 45, 184, 0, 196, 54, 5, 44, 42, 21, 4, 4, 96, 46, 182, 0, 198, 54, 6, 167, 1, 3, 43, 182, 0, 199, 87] :: wb605lawp_code_r42
def wb605lawp_code_r40 : List (List Nat) := [96, 46, 45, 184, 0, 193, 54, 5, 44, 42, 21, 4, 4, 96, 46, 182, 0, 195, 54, 6, 167, 1, 31, 43, 42, 21, 4, 4] :: wb605lawp_code_r41
def wb605lawp_code_r39 : List (List Nat) := [96, 46, 182, 0, 188, 54, 6, 167, 1, 72, 43, 182, 0, 189, 87, 44, 182, 0, 192, 87, 167, 1, 59, 43, 42, 21, 4, 4] :: wb605lawp_code_r40
def wb605lawp_code_r38 : List (List Nat) := [184, 0, 186, 54, 5, 44, 42, 21, 4, 4, 96, 46, 42, 21, 4, 5, 96, 46, 42, 21, 4, 6, 96, 46, 42, 21, 4, 7] :: wb605lawp_code_r39
def wb605lawp_code_r37 : List (List Nat) := [1, 136, 43, 42, 21, 4, 4, 96, 46, 42, 21, 4, 5, 96, 46, 42, 21, 4, 6, 96, 46, 42, 21, 4, 7, 96, 46, 45] :: wb605lawp_code_r38
def wb605lawp_code_r36 : List (List Nat) := [1, 164, 43, 42, 21, 4, 4, 96, 46, 45, 184, 0, 183, 54, 5, 44, 42, 21, 4, 4, 96, 46, 182, 0, 185, 54, 6, 167] :: wb605lawp_code_r37
def wb605lawp_code_r35 : List (List Nat) := [4, 4, 96, 46, 42, 21, 4, 5, 96, 46, 42, 21, 4, 6, 96, 46, 42, 21, 4, 7, 96, 46, 182, 0, 182, 54, 6, 167] :: wb605lawp_code_r36
def wb605lawp_code_r34 : List (List Nat) := [46, 42, 21, 4, 5, 96, 46, 42, 21, 4, 6, 96, 46, 42, 21, 4, 7, 96, 46, 45, 184, 0, 179, 54, 5, 44, 42, 21] :: wb605lawp_code_r35
def wb605lawp_code_r33 : List (List Nat) := [96, 46, 42, 21, 4, 5, 96, 46, 42, 21, 4, 6, 96, 46, 182, 0, 178, 54, 6, 167, 1, 228, 43, 42, 21, 4, 4, 96] :: wb605lawp_code_r34
def wb605lawp_code_r32 : List (List Nat) := [21, 4, 4, 96, 46, 42, 21, 4, 5, 96, 46, 42, 21, 4, 6, 96, 46, 45, 184, 0, 176, 54, 5, 44, 42, 21, 4, 4] :: wb605lawp_code_r33
def wb605lawp_code_r31 : List (List Nat) := [184, 0, 173, 54, 5, 44, 42, 21, 4, 4, 96, 46, 42, 21, 4, 5, 96, 46, 182, 0, 175, 54, 6, 167, 2, 24, 43, 42] :: wb605lawp_code_r32
def wb605lawp_code_r30 : List (List Nat) := [42, 21, 4, 5, 96, 46, 182, 0, 172, 54, 6, 167, 2, 64, 43, 42, 21, 4, 4, 96, 46, 42, 21, 4, 5, 96, 46, 45] :: wb605lawp_code_r31
def wb605lawp_code_r29 : List (List Nat) := [2, 104, 43, 42, 21, 4, 4, 96, 46, 42, 21, 4, 5, 96, 46, 45, 184, 0, 170, 54, 5, 44, 42, 21, 4, 4, 96, 46] :: wb605lawp_code_r30
def wb605lawp_code_r28 : List (List Nat) := [2, 132, 43, 42, 21, 4, 4, 96, 46, 45, 184, 0, 167, 54, 5, 44, 42, 21, 4, 4, 96, 46, 182, 0, 169, 54, 6, 167] :: wb605lawp_code_r29
def wb605lawp_code_r27 : List (List Nat) := [5, 96, 46, 45, 184, 0, 164, 54, 5, 44, 42, 21, 4, 4, 96, 46, 42, 21, 4, 5, 96, 46, 182, 0, 166, 54, 6, 167] :: wb605lawp_code_r28
def wb605lawp_code_r26 : List (List Nat) := [4, 4, 96, 46, 42, 21, 4, 5, 96, 46, 182, 0, 163, 54, 6, 167, 2, 172, 43, 42, 21, 4, 4, 96, 46, 42, 21, 4] :: wb605lawp_code_r27
def wb605lawp_code_r25 : List (List Nat) := [160, 54, 6, 167, 2, 212, 43, 42, 21, 4, 4, 96, 46, 42, 21, 4, 5, 96, 46, 45, 184, 0, 161, 54, 5, 44, 42, 21] :: wb605lawp_code_r26
def wb605lawp_code_r24 : List (List Nat) := [46, 42, 21, 4, 5, 96, 46, 45, 184, 0, 158, 54, 5, 44, 42, 21, 4, 4, 96, 46, 42, 21, 4, 5, 96, 46, 182, 0] :: wb605lawp_code_r25
def wb605lawp_code_r23 : List (List Nat) := [46, 45, 184, 0, 155, 54, 5, 44, 42, 21, 4, 4, 96, 46, 182, 0, 157, 54, 6, 167, 2, 252, 43, 42, 21, 4, 4, 96] :: wb605lawp_code_r24
def wb605lawp_code_r22 : List (List Nat) := [46, 45, 184, 0, 152, 54, 5, 44, 42, 21, 4, 4, 96, 46, 182, 0, 154, 54, 6, 167, 3, 24, 43, 42, 21, 4, 4, 96] :: wb605lawp_code_r23
def wb605lawp_code_r21 : List (List Nat) := [5, 44, 42, 21, 4, 4, 96, 46, 42, 21, 4, 5, 96, 46, 182, 0, 151, 54, 6, 167, 3, 52, 43, 42, 21, 4, 4, 96] :: wb605lawp_code_r22
def wb605lawp_code_r20 : List (List Nat) := [96, 46, 182, 0, 148, 54, 6, 167, 3, 92, 43, 42, 21, 4, 4, 96, 46, 42, 21, 4, 5, 96, 46, 45, 184, 0, 149, 54] :: wb605lawp_code_r21
def wb605lawp_code_r19 : List (List Nat) := [21, 4, 4, 96, 46, 42, 21, 4, 5, 96, 46, 45, 184, 0, 146, 54, 5, 44, 42, 21, 4, 4, 96, 46, 42, 21, 4, 5] :: wb605lawp_code_r20
def wb605lawp_code_r18 : List (List Nat) := [184, 0, 143, 54, 5, 44, 42, 21, 4, 4, 96, 46, 42, 21, 4, 5, 96, 46, 182, 0, 145, 54, 6, 167, 3, 132, 43, 42] :: wb605lawp_code_r19
def wb605lawp_code_r17 : List (List Nat) := [42, 21, 4, 6, 96, 46, 182, 0, 142, 54, 6, 167, 3, 172, 43, 42, 21, 4, 4, 96, 46, 42, 21, 4, 5, 96, 46, 45] :: wb605lawp_code_r18
def wb605lawp_code_r16 : List (List Nat) := [5, 96, 46, 42, 21, 4, 6, 96, 46, 45, 184, 0, 139, 54, 5, 44, 42, 21, 4, 4, 96, 46, 42, 21, 4, 5, 96, 46] :: wb605lawp_code_r17
def wb605lawp_code_r15 : List (List Nat) := [4, 4, 96, 46, 42, 21, 4, 5, 96, 46, 182, 0, 138, 54, 6, 167, 3, 224, 43, 42, 21, 4, 4, 96, 46, 42, 21, 4] :: wb605lawp_code_r16
def wb605lawp_code_r14 : List (List Nat) := [134, 54, 6, 167, 4, 8, 43, 42, 21, 4, 4, 96, 46, 42, 21, 4, 5, 96, 46, 45, 184, 0, 135, 54, 5, 44, 42, 21] :: wb605lawp_code_r15
def wb605lawp_code_r13 : List (List Nat) := [0, 131, 87, 167, 4, 36, 43, 42, 21, 4, 4, 96, 46, 45, 184, 0, 132, 54, 5, 44, 42, 21, 4, 4, 96, 46, 182, 0] :: wb605lawp_code_r14
def wb605lawp_code_r12 : List (List Nat) := [45, 184, 0, 124, 54, 5, 44, 42, 21, 4, 4, 96, 46, 182, 0, 126, 54, 6, 167, 4, 49, 43, 182, 0, 127, 87, 44, 182] :: wb605lawp_code_r13
def wb605lawp_code_r11 : List (List Nat) := [45, 184, 0, 121, 54, 5, 44, 42, 21, 4, 4, 96, 46, 182, 0, 123, 54, 6, 167, 4, 77, 43, 42, 21, 4, 4, 96, 46] :: wb605lawp_code_r12
def wb605lawp_code_r10 : List (List Nat) := [45, 184, 0, 115, 54, 5, 44, 42, 21, 4, 4, 96, 46, 182, 0, 120, 54, 6, 167, 4, 105, 43, 42, 21, 4, 4, 96, 46] :: wb605lawp_code_r11
def wb605lawp_code_r9 : List (List Nat) := [96, 46, 42, 21, 4, 7, 96, 46, 42, 21, 4, 8, 96, 46, 182, 0, 114, 87, 167, 4, 133, 43, 42, 21, 4, 4, 96, 46] :: wb605lawp_code_r10
def wb605lawp_code_r8 : List (List Nat) := [46, 42, 21, 4, 8, 96, 46, 182, 0, 110, 87, 44, 42, 21, 4, 4, 96, 46, 42, 21, 4, 5, 96, 46, 42, 21, 4, 6] :: wb605lawp_code_r9
def wb605lawp_code_r7 : List (List Nat) := [0, 0, 5, 82, 43, 42, 21, 4, 4, 96, 46, 42, 21, 4, 5, 96, 46, 42, 21, 4, 6, 96, 46, 42, 21, 4, 7, 96] :: wb605lawp_code_r8
def wb605lawp_code_r6 : List (List Nat) := [0, 0, 4, 160, 0, 0, 4, 188, 0, 0, 4, 216, 0, 0, 4, 244, 0, 0, 5, 28, 0, 0, 5, 56, 0, 0, 5, 69] :: wb605lawp_code_r7
def wb605lawp_code_r5 : List (List Nat) := [0, 0, 3, 202, 0, 0, 3, 230, 0, 0, 4, 38, 0, 0, 4, 51, 0, 0, 4, 79, 0, 0, 4, 107, 0, 0, 4, 120] :: wb605lawp_code_r6
def wb605lawp_code_r4 : List (List Nat) := [0, 0, 2, 154, 0, 0, 2, 194, 0, 0, 2, 234, 0, 0, 3, 6, 0, 0, 3, 46, 0, 0, 3, 86, 0, 0, 3, 138] :: wb605lawp_code_r5
def wb605lawp_code_r3 : List (List Nat) := [0, 0, 1, 142, 0, 0, 1, 194, 0, 0, 1, 234, 0, 0, 2, 18, 0, 0, 2, 58, 0, 0, 2, 86, 0, 0, 2, 114] :: wb605lawp_code_r4
def wb605lawp_code_r2 : List (List Nat) := [0, 0, 0, 160, 0, 0, 0, 233, 0, 0, 1, 5, 0, 0, 1, 33, 0, 0, 1, 61, 0, 0, 1, 74, 0, 0, 1, 102] :: wb605lawp_code_r3
def wb605lawp_code_r1 : List (List Nat) := [6, 100, 163, 5, 123, 42, 21, 4, 46, 16, 63, 126, 170, 0, 0, 0, 0, 0, 5, 107, 0, 0, 0, 0, 0, 0, 0, 35] :: wb605lawp_code_r2
def wb605lawp_code_r0 : List (List Nat) := [187, 0, 8, 89, 183, 0, 106, 76, 187, 0, 107, 89, 183, 0, 109, 77, 4, 188, 11, 78, 3, 54, 4, 21, 4, 42, 190, 16] :: wb605lawp_code_r1
set_option maxRecDepth 100000 in
theorem wb605lawp_code_c0 : wt_cs code 0 wb605lawp_code_r0 := wt_cs_of (by decide +kernel)
theorem wb605lawp_code_c1 : wt_cs code 28 wb605lawp_code_r1 := wt_cs_tl (m := 28) wb605lawp_code_c0 rfl rfl
theorem wb605lawp_code_c2 : wt_cs code 56 wb605lawp_code_r2 := wt_cs_tl (m := 28) wb605lawp_code_c1 rfl rfl
theorem wb605lawp_code_c3 : wt_cs code 84 wb605lawp_code_r3 := wt_cs_tl (m := 28) wb605lawp_code_c2 rfl rfl
theorem wb605lawp_code_c4 : wt_cs code 112 wb605lawp_code_r4 := wt_cs_tl (m := 28) wb605lawp_code_c3 rfl rfl
theorem wb605lawp_code_c5 : wt_cs code 140 wb605lawp_code_r5 := wt_cs_tl (m := 28) wb605lawp_code_c4 rfl rfl
theorem wb605lawp_code_c6 : wt_cs code 168 wb605lawp_code_r6 := wt_cs_tl (m := 28) wb605lawp_code_c5 rfl rfl
theorem wb605lawp_code_c7 : wt_cs code 196 wb605lawp_code_r7 := wt_cs_tl (m := 28) wb605lawp_code_c6 rfl rfl
theorem wb605lawp_code_c8 : wt_cs code 224 wb605lawp_code_r8 := wt_cs_tl (m := 28) wb605lawp_code_c7 rfl rfl
theorem wb605lawp_code_c9 : wt_cs code 252 wb605lawp_code_r9 := wt_cs_tl (m := 28) wb605lawp_code_c8 rfl rfl
theorem wb605lawp_code_c10 : wt_cs code 280 wb605lawp_code_r10 := wt_cs_tl (m := 28) wb605lawp_code_c9 rfl rfl
theorem wb605lawp_code_c11 : wt_cs code 308 wb605lawp_code_r11 := wt_cs_tl (m := 28) wb605lawp_code_c10 rfl rfl
theorem wb605lawp_code_c12 : wt_cs code 336 wb605lawp_code_r12 := wt_cs_tl (m := 28) wb605lawp_code_c11 rfl rfl
theorem wb605lawp_code_c13 : wt_cs code 364 wb605lawp_code_r13 := wt_cs_tl (m := 28) wb605lawp_code_c12 rfl rfl
theorem wb605lawp_code_c14 : wt_cs code 392 wb605lawp_code_r14 := wt_cs_tl (m := 28) wb605lawp_code_c13 rfl rfl
theorem wb605lawp_code_c15 : wt_cs code 420 wb605lawp_code_r15 := wt_cs_tl (m := 28) wb605lawp_code_c14 rfl rfl
theorem wb605lawp_code_c16 : wt_cs code 448 wb605lawp_code_r16 := wt_cs_tl (m := 28) wb605lawp_code_c15 rfl rfl
theorem wb605lawp_code_c17 : wt_cs code 476 wb605lawp_code_r17 := wt_cs_tl (m := 28) wb605lawp_code_c16 rfl rfl
theorem wb605lawp_code_c18 : wt_cs code 504 wb605lawp_code_r18 := wt_cs_tl (m := 28) wb605lawp_code_c17 rfl rfl
theorem wb605lawp_code_c19 : wt_cs code 532 wb605lawp_code_r19 := wt_cs_tl (m := 28) wb605lawp_code_c18 rfl rfl
theorem wb605lawp_code_c20 : wt_cs code 560 wb605lawp_code_r20 := wt_cs_tl (m := 28) wb605lawp_code_c19 rfl rfl
theorem wb605lawp_code_c21 : wt_cs code 588 wb605lawp_code_r21 := wt_cs_tl (m := 28) wb605lawp_code_c20 rfl rfl
theorem wb605lawp_code_c22 : wt_cs code 616 wb605lawp_code_r22 := wt_cs_tl (m := 28) wb605lawp_code_c21 rfl rfl
theorem wb605lawp_code_c23 : wt_cs code 644 wb605lawp_code_r23 := wt_cs_tl (m := 28) wb605lawp_code_c22 rfl rfl
theorem wb605lawp_code_c24 : wt_cs code 672 wb605lawp_code_r24 := wt_cs_tl (m := 28) wb605lawp_code_c23 rfl rfl
theorem wb605lawp_code_c25 : wt_cs code 700 wb605lawp_code_r25 := wt_cs_tl (m := 28) wb605lawp_code_c24 rfl rfl
theorem wb605lawp_code_c26 : wt_cs code 728 wb605lawp_code_r26 := wt_cs_tl (m := 28) wb605lawp_code_c25 rfl rfl
theorem wb605lawp_code_c27 : wt_cs code 756 wb605lawp_code_r27 := wt_cs_tl (m := 28) wb605lawp_code_c26 rfl rfl
theorem wb605lawp_code_c28 : wt_cs code 784 wb605lawp_code_r28 := wt_cs_tl (m := 28) wb605lawp_code_c27 rfl rfl
theorem wb605lawp_code_c29 : wt_cs code 812 wb605lawp_code_r29 := wt_cs_tl (m := 28) wb605lawp_code_c28 rfl rfl
theorem wb605lawp_code_c30 : wt_cs code 840 wb605lawp_code_r30 := wt_cs_tl (m := 28) wb605lawp_code_c29 rfl rfl
theorem wb605lawp_code_c31 : wt_cs code 868 wb605lawp_code_r31 := wt_cs_tl (m := 28) wb605lawp_code_c30 rfl rfl
theorem wb605lawp_code_c32 : wt_cs code 896 wb605lawp_code_r32 := wt_cs_tl (m := 28) wb605lawp_code_c31 rfl rfl
theorem wb605lawp_code_c33 : wt_cs code 924 wb605lawp_code_r33 := wt_cs_tl (m := 28) wb605lawp_code_c32 rfl rfl
theorem wb605lawp_code_c34 : wt_cs code 952 wb605lawp_code_r34 := wt_cs_tl (m := 28) wb605lawp_code_c33 rfl rfl
theorem wb605lawp_code_c35 : wt_cs code 980 wb605lawp_code_r35 := wt_cs_tl (m := 28) wb605lawp_code_c34 rfl rfl
theorem wb605lawp_code_c36 : wt_cs code 1008 wb605lawp_code_r36 := wt_cs_tl (m := 28) wb605lawp_code_c35 rfl rfl
theorem wb605lawp_code_c37 : wt_cs code 1036 wb605lawp_code_r37 := wt_cs_tl (m := 28) wb605lawp_code_c36 rfl rfl
theorem wb605lawp_code_c38 : wt_cs code 1064 wb605lawp_code_r38 := wt_cs_tl (m := 28) wb605lawp_code_c37 rfl rfl
theorem wb605lawp_code_c39 : wt_cs code 1092 wb605lawp_code_r39 := wt_cs_tl (m := 28) wb605lawp_code_c38 rfl rfl
theorem wb605lawp_code_c40 : wt_cs code 1120 wb605lawp_code_r40 := wt_cs_tl (m := 28) wb605lawp_code_c39 rfl rfl
theorem wb605lawp_code_c41 : wt_cs code 1148 wb605lawp_code_r41 := wt_cs_tl (m := 28) wb605lawp_code_c40 rfl rfl
theorem wb605lawp_code_c42 : wt_cs code 1176 wb605lawp_code_r42 := wt_cs_tl (m := 28) wb605lawp_code_c41 rfl rfl
theorem wb605lawp_code_c43 : wt_cs code 1204 wb605lawp_code_r43 := wt_cs_tl (m := 28) wb605lawp_code_c42 rfl rfl
theorem wb605lawp_code_c44 : wt_cs code 1232 wb605lawp_code_r44 := wt_cs_tl (m := 28) wb605lawp_code_c43 rfl rfl
theorem wb605lawp_code_c45 : wt_cs code 1260 wb605lawp_code_r45 := wt_cs_tl (m := 28) wb605lawp_code_c44 rfl rfl
theorem wb605lawp_code_c46 : wt_cs code 1288 wb605lawp_code_r46 := wt_cs_tl (m := 28) wb605lawp_code_c45 rfl rfl
theorem wb605lawp_code_c47 : wt_cs code 1316 wb605lawp_code_r47 := wt_cs_tl (m := 28) wb605lawp_code_c46 rfl rfl
theorem wb605lawp_code_c48 : wt_cs code 1344 wb605lawp_code_r48 := wt_cs_tl (m := 28) wb605lawp_code_c47 rfl rfl
theorem wb605lawp_code_c49 : wt_cs code 1372 wb605lawp_code_r49 := wt_cs_tl (m := 28) wb605lawp_code_c48 rfl rfl
theorem wb605lawp_code_c50 : wt_cs code 1400 wb605lawp_code_r50 := wt_cs_tl (m := 28) wb605lawp_code_c49 rfl rfl
theorem wb605lawp_code_c51 : wt_cs code 1428 wb605lawp_code_r51 := wt_cs_tl (m := 28) wb605lawp_code_c50 rfl rfl
theorem wld_0 : decode code 0 = .ok (.new 8, 3) := wt_op187 wb605lawp_code_c0 0 rfl rfl rfl
theorem wld_3 : decode code 3 = .ok (.dup, 1) := wt_op89 wb605lawp_code_c0 3 rfl rfl
theorem wld_4 : decode code 4 = .ok (.invokespecial 106, 3) := wt_op183 wb605lawp_code_c0 4 rfl rfl rfl
theorem wld_7 : decode code 7 = .ok (.astore_n 1, 1) := wt_op76 wb605lawp_code_c0 7 rfl rfl
theorem wld_8 : decode code 8 = .ok (.new 107, 3) := wt_op187 wb605lawp_code_c0 8 rfl rfl rfl
theorem wld_11 : decode code 11 = .ok (.dup, 1) := wt_op89 wb605lawp_code_c0 11 rfl rfl
theorem wld_12 : decode code 12 = .ok (.invokespecial 109, 3) := wt_op183 wb605lawp_code_c0 12 rfl rfl rfl
theorem wld_15 : decode code 15 = .ok (.astore_n 2, 1) := wt_op77 wb605lawp_code_c0 15 rfl rfl
abbrev wt_z : wt_St := (fun _ _ => 0, fun _ _ => 0)
theorem wt_z_zero : wt_zero wt_z 0 := fun _ _ => ⟨fun _ => rfl, fun _ => rfl⟩
/-- σ is what the two makers leave -/
def wt_made (n : Nat) (σ : wt_St) : Prop := ∃ α1 α2 α3 α4 α5 α6 β1 β2 : wt_St, (wp_ld_clear n 4 (wt_sf wt_z 1 7 (-1 : Int32)) = some α1) ∧ (∀ i, ¬ (4 ≤ i ∧ i < 12) → (∀ q, wt_gf α1 i q = wt_gf (wt_sf wt_z 1 7 (-1 : Int32)) i q) ∧ ∀ q, wt_ga α1 i q = wt_ga (wt_sf wt_z 1 7 (-1 : Int32)) i q) ∧ (wp_ld_clear n 12 α1 = some α2) ∧ (∀ i, ¬ (12 ≤ i ∧ i < 20) → (∀ q, wt_gf α2 i q = wt_gf α1 i q) ∧ ∀ q, wt_ga α2 i q = wt_ga α1 i q) ∧ (wp_st_clearPages n 39 α2 = some α3) ∧ (∀ i, ¬ (39 ≤ i ∧ i < 48) → (∀ q, wt_gf α3 i q = wt_gf α2 i q) ∧ ∀ q, wt_ga α3 i q = wt_ga α2 i q) ∧ (wp_st_clearPages n 49 α3 = some α4) ∧ (∀ i, ¬ (49 ≤ i ∧ i < 58) → (∀ q, wt_gf α4 i q = wt_gf α3 i q) ∧ ∀ q, wt_ga α4 i q = wt_ga α3 i q) ∧ (wp_st_clearPages n 58 α4 = some α5) ∧ (∀ i, ¬ (58 ≤ i ∧ i < 67) → (∀ q, wt_gf α5 i q = wt_gf α4 i q) ∧ ∀ q, wt_ga α5 i q = wt_ga α4 i q) ∧ (wp_st_clearPages n 67 α5 = some α6) ∧ (∀ i, ¬ (67 ≤ i ∧ i < 76) → (∀ q, wt_gf α6 i q = wt_gf α5 i q) ∧ ∀ q, wt_ga α6 i q = wt_ga α5 i q) ∧ (wp_md_clearsCase n (wt_sf (wt_sf (wt_sf α6 81 9 (-1 : Int32)) 0 14 (0 : Int32)) 108 3 (-1 : Int32)) = some β1) ∧ (∀ i, ¬ (108 ≤ i ∧ i < 321) → (∀ q, wt_gf β1 i q = wt_gf (wt_sf (wt_sf (wt_sf α6 81 9 (-1 : Int32)) 0 14 (0 : Int32)) 108 3 (-1 : Int32)) i q) ∧ ∀ q, wt_ga β1 i q = wt_ga (wt_sf (wt_sf (wt_sf α6 81 9 (-1 : Int32)) 0 14 (0 : Int32)) 108 3 (-1 : Int32)) i q) ∧ (wp_md_takesCase n β1 = some β2) ∧ (∀ i, ¬ (108 ≤ i ∧ i < 321) → (∀ q, wt_gf β2 i q = wt_gf β1 i q) ∧ ∀ q, wt_ga β2 i q = wt_ga β1 i q) ∧ σ = (wt_sa (wt_sa (wt_sa (wt_sa β2 275 ((0 : Int32)).toNatClampNeg (-1 : Int32)) 275 ((1 : Int32)).toNatClampNeg (-1 : Int32)) 275 ((2 : Int32)).toNatClampNeg (-1 : Int32)) 275 ((3 : Int32)).toNatClampNeg (-1 : Int32))
set_option maxRecDepth 100000 in
set_option maxHeartbeats 4000000 in
theorem wt_law_start {X : wt_X} {v0 : Value} {n : Nat} {σ : wt_St} (hm : wt_made n σ) (h : wt_Ok X code 7 "WornTypeLaw" 400 100000) (hSA : wt_SA (wt_A (wt_xw X) (wt_xs X).heap.size) (wt_xs X) (wt_xs X).heap) (kk : wt_BV X v0 3000 (16 * 3000) 321 [] σ 16 [some (.inr 0), some (.inr 108), none, none, none, none] []) : wt_BV X v0 0 0 0 [] wt_z 0 [none, none, none, none, none, none] [] := by
  obtain ⟨α1, α2, α3, α4, α5, α6, β1, β2, p0, p1, p2, p3, p4, p5, p6, p7, p8, p9, p10, p11, q0, q1, q2, q3, rfl⟩ := hm
  have z1 : wt_zero (wt_sf (wt_sf α6 81 9 (-1 : Int32)) 0 14 (0 : Int32)) 108 := wc_ap_0_z (wt_z_zero.mono (by decide)) p0 p1 p2 p3 p4 p5 p6 p7 p8 p9 p10 p11
  have z2 : wt_zero (wt_sa (wt_sa (wt_sa (wt_sa β2 275 ((0 : Int32)).toNatClampNeg (-1 : Int32)) 275 ((1 : Int32)).toNatClampNeg (-1 : Int32)) 275 ((2 : Int32)).toNatClampNeg (-1 : Int32)) 275 ((3 : Int32)).toNatClampNeg (-1 : Int32)) 321 := wc_md_108_z (z1.mono (by decide)) q0 q1 q2 q3
  refine wt_bv_new h [] wt_cf10 rfl (wt_g1 25 rfl rfl) (wt_g1 26 rfl rfl) (wt_g1 1 rfl rfl) (by decide) wt_L0 (by decide +kernel) (by decide +kernel) rfl rfl (Nat.le_of_ble_eq_true rfl) (Nat.le_of_ble_eq_true rfl) wld_0 ?_
  refine wt_bv_dup h wld_3 ?_
  refine wt_bv_callI (dd := 3) (k2 := 745) h wt_SA_fx hSA rfl (wt_g1 27 rfl rfl) (wt_g1 28 rfl rfl) (wt_g1 1 rfl rfl) wt_ya_ap_init (fun ad => wc_ap_0 (w := wt_at (wt_xw X) ad (fun i => i < 1)) (fun _ => Iff.rfl) (wt_z_zero.mono (by decide)) p0 p1 p2 p3 p4 p5 p6 p7 p8 p9 p10 p11) (by decide) rfl rfl (by decide) (Nat.le_of_ble_eq_true rfl) (Nat.le_of_ble_eq_true rfl) (by decide) z1 rfl rfl wld_4 ?_
  refine wt_bv_astore_n h (j := 0) [some (.inr 0), none, none, none, none, none] wld_7 (by decide) rfl rfl ?_
  refine wt_bv_new h [] wt_cf11 rfl (wt_g6 193 rfl rfl) (wt_g6 194 rfl rfl) (wt_g1 12 rfl rfl) (by decide) wt_L108 (by decide +kernel) (by decide +kernel) rfl rfl (Nat.le_of_ble_eq_true rfl) (Nat.le_of_ble_eq_true rfl) wld_8 ?_
  refine wt_bv_dup h wld_11 ?_
  refine wt_bv_callI (dd := 1) (k2 := 630) h wt_SA_fx hSA rfl (wt_g6 195 rfl rfl) (wt_g6 196 rfl rfl) (wt_g1 12 rfl rfl) wt_ya_md_init (fun ad => wc_md_108 (w := wt_at (wt_xw X) ad (fun i => i < 109)) (fun _ => Iff.rfl) (z1.mono (by decide)) q0 q1 q2 q3) (by decide) rfl rfl (by decide) (Nat.le_of_ble_eq_true rfl) (Nat.le_of_ble_eq_true rfl) (by decide) z2 rfl rfl wld_12 ?_
  refine wt_bv_astore_n h (j := 1) [some (.inr 0), some (.inr 108), none, none, none, none] wld_15 (by decide) rfl rfl ?_
  exact fun ad H locs ls ce sl h1 h2 hw hS hl => kk ad H locs ls ce sl (by omega) (by omega) hw hS hl
def wt_P_feed (n : Nat) (Inv : wt_St → Prop) : Prop := ∀ (σ : wt_St) (x1 x2 x3 x4 x5 : Int32), Inv σ → ∃ q : Int32 × wt_St, wp_ap_feed n x1 x2 x3 x4 x5 σ = some q ∧ ∃ r : Int32 × wt_St, wp_md_feed n x1 x2 x3 x4 x5 q.2 = some r ∧ Inv r.2
def wt_P_kase (n : Nat) (Inv : wt_St → Prop) : Prop := ∀ (σ : wt_St) (x1 : Int32), Inv σ → ∃ q : Nat × Int32 × wt_St, wp_ap_kase n x1 σ = some q ∧ (q.1 = 0 ∨ q.1 = 1) ∧ ∃ r : Int32 × wt_St, wp_md_kase n x1 q.2.2 = some r ∧ Inv r.2
def wt_P_tongue (n : Nat) (Inv : wt_St → Prop) : Prop := ∀ (σ : wt_St) (x1 : Int32), Inv σ → ∃ q : Nat × Int32 × wt_St, wp_ap_tongue n x1 σ = some q ∧ (q.1 = 0 ∨ q.1 = 1) ∧ ∃ r : Int32 × wt_St, wp_md_tongue n x1 q.2.2 = some r ∧ Inv r.2
def wt_P_text (n : Nat) (Inv : wt_St → Prop) : Prop := ∀ (σ : wt_St) (x1 : Int32), Inv σ → ∃ q : Nat × Int32 × wt_St, wp_ap_text n x1 σ = some q ∧ (q.1 = 0 ∨ q.1 = 1) ∧ ∃ r : Int32 × wt_St, wp_md_text n x1 q.2.2 = some r ∧ Inv r.2
def wt_P_fault (n : Nat) (Inv : wt_St → Prop) : Prop := ∀ (σ : wt_St), Inv σ → ∃ q : Int32 × wt_St, wp_ap_fault n σ = some q ∧ ∃ r : Int32 × wt_St, wp_md_fault n q.2 = some r ∧ Inv r.2
def wt_P_told (n : Nat) (Inv : wt_St → Prop) : Prop := ∀ (σ : wt_St) (x1 : Int32), Inv σ → ∃ q : Nat × Int32 × wt_St, wp_ap_told n x1 σ = some q ∧ (q.1 = 0 ∨ q.1 = 1) ∧ ∃ r : Int32 × wt_St, wp_md_told n x1 q.2.2 = some r ∧ Inv r.2
def wt_P_letter (n : Nat) (Inv : wt_St → Prop) : Prop := ∀ (σ : wt_St) (x1 x2 : Int32), Inv σ → ∃ q : Nat × Int32 × wt_St, wp_ap_letter n x1 x2 σ = some q ∧ (q.1 = 0 ∨ q.1 = 1) ∧ ∃ r : Int32 × wt_St, wp_md_letter n x1 x2 q.2.2 = some r ∧ Inv r.2
def wt_P_piece (n : Nat) (Inv : wt_St → Prop) : Prop := ∀ (σ : wt_St) (x1 x2 x3 : Int32), Inv σ → ∃ q : Nat × Int32 × wt_St, wp_ap_piece n x1 x2 x3 σ = some q ∧ (q.1 = 0 ∨ q.1 = 3 ∨ q.1 = 1) ∧ ∃ r : Int32 × wt_St, wp_md_piece n x1 x2 x3 q.2.2 = some r ∧ Inv r.2
def wt_P_word (n : Nat) (Inv : wt_St → Prop) : Prop := ∀ (σ : wt_St) (x1 x2 : Int32), Inv σ → ∃ q : Nat × Int32 × wt_St, wp_ap_word n x1 x2 σ = some q ∧ (q.1 = 0 ∨ q.1 = 2 ∨ q.1 = 1) ∧ ∃ r : Int32 × wt_St, wp_md_word n x1 x2 q.2.2 = some r ∧ Inv r.2
def wt_P_at (n : Nat) (Inv : wt_St → Prop) : Prop := ∀ (σ : wt_St) (x1 x2 : Int32), Inv σ → ∃ q : Nat × Int32 × wt_St, wp_ap_at n x1 x2 σ = some q ∧ (q.1 = 0 ∨ q.1 = 2) ∧ ∃ r : Int32 × wt_St, wp_md_at n x1 x2 q.2.2 = some r ∧ Inv r.2
def wt_P_needs (n : Nat) (Inv : wt_St → Prop) : Prop := ∀ (σ : wt_St) (x1 x2 : Int32), Inv σ → ∃ q : Nat × Int32 × wt_St, wp_ap_needs n x1 x2 σ = some q ∧ (q.1 = 0 ∨ q.1 = 2 ∨ q.1 = 1) ∧ ∃ r : Int32 × wt_St, wp_md_needs n x1 x2 q.2.2 = some r ∧ Inv r.2
def wt_P_habit (n : Nat) (Inv : wt_St → Prop) : Prop := ∀ (σ : wt_St) (x1 : Int32), Inv σ → ∃ q : Nat × Int32 × wt_St, wp_ap_habit n x1 σ = some q ∧ (q.1 = 0 ∨ q.1 = 1) ∧ ∃ r : Int32 × wt_St, wp_md_habit n x1 q.2.2 = some r ∧ Inv r.2
def wt_P_can (n : Nat) (Inv : wt_St → Prop) : Prop := ∀ (σ : wt_St) (x1 : Int32), Inv σ → ∃ q : Nat × Int32 × wt_St, wp_ap_can n x1 σ = some q ∧ (q.1 = 0 ∨ q.1 = 2) ∧ ∃ r : Int32 × wt_St, wp_md_can n x1 q.2.2 = some r ∧ Inv r.2
def wt_P_lacks (n : Nat) (Inv : wt_St → Prop) : Prop := ∀ (σ : wt_St) (x1 x2 : Int32), Inv σ → ∃ q : Nat × Int32 × wt_St, wp_ap_lacks n x1 x2 σ = some q ∧ (q.1 = 0 ∨ q.1 = 2 ∨ q.1 = 1) ∧ ∃ r : Int32 × wt_St, wp_md_lacks n x1 x2 q.2.2 = some r ∧ Inv r.2
def wt_P_set (n : Nat) (Inv : wt_St → Prop) : Prop := ∀ (σ : wt_St) (x1 x2 : Int32), Inv σ → ∃ q : Nat × Int32 × wt_St, wp_ap_set n x1 x2 σ = some q ∧ (q.1 = 0 ∨ q.1 = 2 ∨ q.1 = 1) ∧ ∃ r : Int32 × wt_St, wp_md_set n x1 x2 q.2.2 = some r ∧ Inv r.2
def wt_P_print (n : Nat) (Inv : wt_St → Prop) : Prop := ∀ (σ : wt_St) (x1 x2 : Int32), Inv σ → ∃ q : Nat × Int32 × wt_St, wp_ap_print n x1 x2 σ = some q ∧ (q.1 = 0 ∨ q.1 = 2 ∨ q.1 = 1) ∧ ∃ r : Int32 × wt_St, wp_md_print n x1 x2 q.2.2 = some r ∧ Inv r.2
def wt_P_apart (n : Nat) (Inv : wt_St → Prop) : Prop := ∀ (σ : wt_St) (x1 : Int32), Inv σ → ∃ q : Nat × Int32 × wt_St, wp_ap_apart n x1 σ = some q ∧ (q.1 = 0 ∨ q.1 = 2) ∧ ∃ r : Int32 × wt_St, wp_md_apart n x1 q.2.2 = some r ∧ Inv r.2
def wt_P_page (n : Nat) (Inv : wt_St → Prop) : Prop := ∀ (σ : wt_St) (x1 x2 : Int32), Inv σ → ∃ q : Nat × Int32 × wt_St, wp_ap_page n x1 x2 σ = some q ∧ (q.1 = 0 ∨ q.1 = 2 ∨ q.1 = 1) ∧ ∃ r : Int32 × wt_St, wp_md_page n x1 x2 q.2.2 = some r ∧ Inv r.2
def wt_P_read (n : Nat) (Inv : wt_St → Prop) : Prop := ∀ (σ : wt_St) (x1 x2 : Int32), Inv σ → ∃ q : Nat × Int32 × wt_St, wp_ap_read n x1 x2 σ = some q ∧ (q.1 = 0 ∨ q.1 = 2) ∧ ∃ r : Int32 × wt_St, wp_md_read n x1 x2 q.2.2 = some r ∧ Inv r.2
def wt_P_least (n : Nat) (Inv : wt_St → Prop) : Prop := ∀ (σ : wt_St) (x1 x2 x3 : Int32), Inv σ → ∃ q : Nat × Int32 × wt_St, wp_ap_least n x1 x2 x3 σ = some q ∧ (q.1 = 0 ∨ q.1 = 2 ∨ q.1 = 1) ∧ ∃ r : Int32 × wt_St, wp_md_least n x1 x2 x3 q.2.2 = some r ∧ Inv r.2
def wt_P_fitting (n : Nat) (Inv : wt_St → Prop) : Prop := ∀ (σ : wt_St) (x1 x2 x3 x4 : Int32), Inv σ → ∃ q : Nat × Int32 × wt_St, wp_ap_fitting n x1 x2 x3 x4 σ = some q ∧ (q.1 = 0 ∨ q.1 = 2 ∨ q.1 = 1) ∧ ∃ r : Int32 × wt_St, wp_md_fitting n x1 x2 x3 x4 q.2.2 = some r ∧ Inv r.2
def wt_P_wordings (n : Nat) (Inv : wt_St → Prop) : Prop := ∀ (σ : wt_St) (x1 : Int32), Inv σ → ∃ q : Nat × Int32 × wt_St, wp_ap_wordings n x1 σ = some q ∧ (q.1 = 0 ∨ q.1 = 2) ∧ ∃ r : Int32 × wt_St, wp_md_wordings n x1 q.2.2 = some r ∧ Inv r.2
def wt_P_want (n : Nat) (Inv : wt_St → Prop) : Prop := ∀ (σ : wt_St) (x1 x2 x3 x4 : Int32), Inv σ → ∃ q : Nat × Int32 × wt_St, wp_ap_want n x1 x2 x3 x4 σ = some q ∧ (q.1 = 0 ∨ q.1 = 2 ∨ q.1 = 1) ∧ ∃ r : Int32 × wt_St, wp_md_want n x1 x2 x3 x4 q.2.2 = some r ∧ Inv r.2
def wt_P_forget (n : Nat) (Inv : wt_St → Prop) : Prop := ∀ (σ : wt_St), Inv σ → ∃ q : Int32 × wt_St, wp_ap_forget n σ = some q ∧ ∃ r : Int32 × wt_St, wp_md_forget n q.2 = some r ∧ Inv r.2
def wt_P_most (n : Nat) (Inv : wt_St → Prop) : Prop := ∀ (σ : wt_St) (x1 : Int32), Inv σ → ∃ q : Nat × Int32 × wt_St, wp_ap_most n x1 σ = some q ∧ (q.1 = 0 ∨ q.1 = 1) ∧ ∃ r : Int32 × wt_St, wp_md_most n x1 q.2.2 = some r ∧ Inv r.2
def wt_P_greedy (n : Nat) (Inv : wt_St → Prop) : Prop := ∀ (σ : wt_St) (x1 : Int32), Inv σ → ∃ q : Nat × Int32 × wt_St, wp_ap_greedy n x1 σ = some q ∧ (q.1 = 0 ∨ q.1 = 1) ∧ ∃ r : Int32 × wt_St, wp_md_greedy n x1 q.2.2 = some r ∧ Inv r.2
def wt_P_bound (n : Nat) (Inv : wt_St → Prop) : Prop := ∀ (σ : wt_St), Inv σ → ∃ q : Int32 × wt_St, wp_ap_bound n σ = some q ∧ ∃ r : Int32 × wt_St, wp_md_bound n q.2 = some r ∧ Inv r.2
def wt_P_said (n : Nat) (Inv : wt_St → Prop) : Prop := ∀ (σ : wt_St) (x1 x2 : Int32), Inv σ → ∃ q : Nat × Int32 × wt_St, wp_ap_said n x1 x2 σ = some q ∧ (q.1 = 0 ∨ q.1 = 2 ∨ q.1 = 1) ∧ ∃ r : Int32 × wt_St, wp_md_said n x1 x2 q.2.2 = some r ∧ Inv r.2
def wt_P_lost (n : Nat) (Inv : wt_St → Prop) : Prop := ∀ (σ : wt_St) (x1 : Int32), Inv σ → ∃ q : Nat × Int32 × wt_St, wp_ap_lost n x1 σ = some q ∧ (q.1 = 0 ∨ q.1 = 1) ∧ ∃ r : Int32 × wt_St, wp_md_lost n x1 q.2.2 = some r ∧ Inv r.2
def wt_P_ends (n : Nat) (Inv : wt_St → Prop) : Prop := ∀ (σ : wt_St) (x1 : Int32), Inv σ → ∃ q : Nat × Int32 × wt_St, wp_ap_ends n x1 σ = some q ∧ (q.1 = 0 ∨ q.1 = 2) ∧ ∃ r : Int32 × wt_St, wp_md_ends n x1 q.2.2 = some r ∧ Inv r.2
def wt_P_exchange (n : Nat) (Inv : wt_St → Prop) : Prop := ∀ (σ : wt_St) (x1 : Int32), Inv σ → ∃ q : Nat × Int32 × wt_St, wp_ap_exchange n x1 σ = some q ∧ (q.1 = 0 ∨ q.1 = 2) ∧ ∃ r : Int32 × wt_St, wp_md_exchange n x1 q.2.2 = some r ∧ Inv r.2
def wt_P_cast (n : Nat) (Inv : wt_St → Prop) : Prop := ∀ (σ : wt_St) (x1 x2 : Int32), Inv σ → ∃ q : Nat × Int32 × wt_St, wp_ap_cast n x1 x2 σ = some q ∧ (q.1 = 0 ∨ q.1 = 2 ∨ q.1 = 1) ∧ ∃ r : Int32 × wt_St, wp_md_cast n x1 x2 q.2.2 = some r ∧ Inv r.2
def wt_P_together (n : Nat) (Inv : wt_St → Prop) : Prop := ∀ (σ : wt_St) (x1 : Int32), Inv σ → ∃ q : Nat × Int32 × wt_St, wp_ap_together n x1 σ = some q ∧ (q.1 = 0 ∨ q.1 = 1) ∧ ∃ r : Int32 × wt_St, wp_md_together n x1 q.2.2 = some r ∧ Inv r.2
def wt_P_image (n : Nat) (Inv : wt_St → Prop) : Prop := ∀ (σ : wt_St), Inv σ → ∃ q : Int32 × wt_St, wp_ap_image n σ = some q ∧ ∃ r : Int32 × wt_St, wp_md_image n q.2 = some r ∧ Inv r.2
def wt_P_restore (n : Nat) (Inv : wt_St → Prop) : Prop := ∀ (σ : wt_St), Inv σ → ∃ q : Int32 × wt_St, wp_ap_restore n σ = some q ∧ ∃ r : Int32 × wt_St, wp_md_restore n q.2 = some r ∧ Inv r.2
def wt_P_count (n : Nat) (Inv : wt_St → Prop) : Prop := ∀ (σ : wt_St) (x1 : Int32), Inv σ → ∃ q : Int32 × wt_St, wp_ap_count n x1 σ = some q ∧ ∃ r : Int32 × wt_St, wp_md_count n x1 q.2 = some r ∧ q.1 = r.1 ∧ Inv r.2
/-- all that is wanted of the programs -/
def wt_P (n : Nat) (Inv : wt_St → Prop) : Prop := wt_P_feed n Inv ∧ wt_P_kase n Inv ∧ wt_P_tongue n Inv ∧ wt_P_text n Inv ∧ wt_P_fault n Inv ∧ wt_P_told n Inv ∧ wt_P_letter n Inv ∧ wt_P_piece n Inv ∧ wt_P_word n Inv ∧ wt_P_at n Inv ∧ wt_P_needs n Inv ∧ wt_P_habit n Inv ∧ wt_P_can n Inv ∧ wt_P_lacks n Inv ∧ wt_P_set n Inv ∧ wt_P_print n Inv ∧ wt_P_apart n Inv ∧ wt_P_page n Inv ∧ wt_P_read n Inv ∧ wt_P_least n Inv ∧ wt_P_fitting n Inv ∧ wt_P_wordings n Inv ∧ wt_P_want n Inv ∧ wt_P_forget n Inv ∧ wt_P_most n Inv ∧ wt_P_greedy n Inv ∧ wt_P_bound n Inv ∧ wt_P_said n Inv ∧ wt_P_lost n Inv ∧ wt_P_ends n Inv ∧ wt_P_exchange n Inv ∧ wt_P_cast n Inv ∧ wt_P_together n Inv ∧ wt_P_image n Inv ∧ wt_P_restore n Inv ∧ wt_P_count n Inv
end WLA
end WTQ2
