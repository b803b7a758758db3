def wb41thx_prog_29_method_4_code_r0 : List (List Nat) := [42, 43, 183, 0, 13, 177] :: []
set_option maxRecDepth 100000 in
theorem wb41thx_prog_29_method_4_code_c0 : wt_cs prog_29_method_4_code 0 wb41thx_prog_29_method_4_code_r0 := wt_cs_of (by decide +kernel)
theorem wt_nse0 : decode prog_29_method_4_code 0 = .ok (.aload_n 0, 1) := wt_op42 wb41thx_prog_29_method_4_code_c0 0 rfl rfl
theorem wt_nse1 : decode prog_29_method_4_code 1 = .ok (.aload_n 1, 1) := wt_op43 wb41thx_prog_29_method_4_code_c0 1 rfl rfl
theorem wt_nse2 : decode prog_29_method_4_code 2 = .ok (.invokespecial 13, 3) := wt_op183 wb41thx_prog_29_method_4_code_c0 2 rfl rfl rfl
theorem wt_nse5 : decode prog_29_method_4_code 5 = .ok (.return_, 1) := wt_op177 wb41thx_prog_29_method_4_code_c0 5 rfl rfl
def wt_oaN : List Cond := (wt_oaX "WornType" 364 "java/util/NoSuchElementException" "java/lang/RuntimeException" 13 prog_29_method_4_code ["java/lang/Exception"]).filter vx_no
theorem wt_xwN : ∀ w ∈ wt_oaN, w ∈ wt_GT ∨ w ∈ wt_NT := wt_inG [97, 650, 659, 663, 666, 668, 651, 652, 115, 116, 653, 658, 664, 684, 640, 685, 642, 686, 644, 654, 656, 646, 680, 681, 683, 646, 1022, 1023, 1024, 674, 632, 674, 675, 676, 677, 634, 677, 678, 679, 680, 636, 1021, 1012, 1013, 1014, 662, 1015, 1016, 1017, 1018, 649, 648, 1019] (by decide +kernel) (by decide +kernel)
set_option maxRecDepth 100000 in
theorem wt_xkI : (Jvm.Cond.classLink "WornType" (167 : Nat) "java/lang/IllegalArgumentException") ∈ wt_GT := wt_g3 64 rfl rfl
set_option maxRecDepth 100000 in
theorem wt_xiI : (Jvm.Cond.initialized "java/lang/IllegalArgumentException") ∈ wt_GT := wt_g1 16 rfl rfl
set_option maxRecDepth 100000 in
theorem wt_xkO : (Jvm.Cond.classLink "WornType" (205 : Nat) "java/lang/IndexOutOfBoundsException") ∈ wt_GT := wt_g4 176 rfl rfl
set_option maxRecDepth 100000 in
theorem wt_xiO : (Jvm.Cond.initialized "java/lang/IndexOutOfBoundsException") ∈ wt_GT := wt_g1 22 rfl rfl
set_option maxRecDepth 100000 in
theorem wt_xkN : (Jvm.Cond.classLink "WornType" (360 : Nat) "java/util/NoSuchElementException") ∈ wt_GT := wt_g4 207 rfl rfl
set_option maxRecDepth 100000 in
theorem wt_xiN : (Jvm.Cond.initialized "java/util/NoSuchElementException") ∈ wt_GT := wt_g1 23 rfl rfl
theorem wt_ot {w : Cond} (h : w ∈ wt_GT ∨ w ∈ wt_NT) : vx_ot w = true := by
  rcases h with h | h
  · unfold vx_ot
    rw [(List.mem_filter.mp h).2, Bool.or_true]
  · have h1 := (List.mem_filter.mp h).2
    cases w <;> first | rfl | cases h1
abbrev wt_rmX (d mc : Nat) : Room := { frames := d, cells := mc, slots := 16 * mc, locals := 64 * d }
def wt_QcX (w : wt_E) (rt : Option FieldType) (e : Nat) (r : Option Int32) (σ' : wt_St) (sz : Nat) : Array Value → State → Outcome → State → Prop := fun a st oc t => e = 0 ∧ wt_Qc w rt r σ' sz a st oc t
def wt_XC (w : wt_E) (e : Nat) (σ' : wt_St) (sz : Nat) : String → State → State → Prop := fun E st t => e ≠ 0 ∧ E = wt_exn e ∧ wt_Wd w σ' t.heap ∧ va_F (wt_A w sz) st t
def wt_CtrX (l : Launch) (w : wt_E) (y : MethodName) (b : ByteArray) (n : Nat) (rt : Option FieldType) (d mc : Nat) (av : List Value) (σ : wt_St) (e : Nat) (r : Option Int32) (σ' : wt_St) : Prop := ∀ sz : Nat, vx_Met l y (wt_ws y b n rt) (wt_rmX d mc) (wt_PcS w wt_S0 av σ sz) (wt_QcX w rt e r σ' sz) (wt_XC w e σ' sz) mc (16 * mc) (wt_A w sz)
def wt_RtX (X : wt_X) (rt : Option FieldType) (mc e : Nat) (r : Option Int32) (σ' : wt_St) : Prop := (wt_xM X).sig.returnType = rt ∧ wt_xQ X = vx_MQ (wt_xb X) (wt_QcX (wt_xw X) rt e r σ' (wt_xs X).heap.size) (wt_XC (wt_xw X) e σ' (wt_xs X).heap.size) (wt_xa X) (wt_xs X) mc (16 * mc) (wt_A (wt_xw X) (wt_xs X).heap.size) ∧ (∀ x ∈ (wt_xc X).exceptionTable.toList, False) ∧ (wt_xl X).stackTraces = false
theorem wt_ctrX {l : Launch} (htr : l.stackTraces = false) {w : wt_E} {y : MethodName} {b : ByteArray} {n : Nat} {rt : Option FieldType} {d mc : Nat} {av : List Value} {σ : wt_St} {e : Nat} {r : Option Int32} {σ' : wt_St} (hy : plainName y.cls = true) (hc : av.all (fun v => v.category == 1) = true) (hle : (lg_sl av).length ≤ n) (lv : List (Option Value)) (hlv : lv = av.map some ++ List.replicate (n - av.length) none)
    (body : ∀ X : wt_X, wt_xl X = l → wt_xw X = w → wt_Ok X b n y.cls d mc → wt_RtX X rt mc e r σ' → wt_V X 0 σ 0 lv []) : wt_CtrX l w y b n rt d mc av σ e r σ' := by
  intro sz
  refine vx_ofW (cc := b) (maxL := n) (ret := rt) hy rfl ?_
  intro p e s m args below meth c s₁ B hml hex hv
  obtain ⟨rfl, hsz, hw, hK, hN, hF, -⟩ := hv
  have hts := atoms_spec (ws := wt_ws y b n rt) B.pre
  have hown : s.vm.findClass y.cls = some m.cls := findClass_of_methodNamed B.named
  subst hsz
  have hl := lv_entry av (n := n) hle
  rw [lg_entry_eq]
  generalize (lg_sl av ++ List.replicate (n - (lg_sl av).length) Slot.unset).toArray = ls at hl ⊢
  have hlo : wt_lo ls n lv := by
    refine ⟨hl.1, hl.2.1, fun j v hj => ?_⟩
    rw [hlv] at hj
    by_cases hj2 : j < av.length
    · rw [List.getElem?_append_left (by simpa using hj2), List.getElem?_map] at hj
      have hv2 : av[j]? = some v := by
        cases hv3 : av[j]? with
        | none => rw [hv3] at hj; cases hj
        | some z => rw [hv3] at hj; cases hj; rfl
      refine ⟨?_, ?_⟩
      · have := List.all_eq_true.mp hc v (List.mem_of_getElem? hv2)
        simpa using this
      · have := hl.2.2 _ (wt_args hc 0 j v hv2)
        simpa using this
    · rw [List.getElem?_append_right (by simpa using hj2)] at hj
      have := List.mem_of_getElem? hj
      rw [List.mem_replicate] at this
      cases this.2
  exact body ((p, l, e, (headSpec (wt_ws y b n rt) (wt_rmX d mc)).room, s, m, av.toArray, below, meth, c), w, n, _) rfl rfl ⟨B.exec, B.bytes, hml, rfl, hown, fun z hz => hts z (List.mem_cons_of_mem _ hz), hK, hN, Nat.le_refl _, Nat.le_refl _, Nat.le_refl _, Nat.le_refl _, B.notSynchronized, hF⟩ ⟨B.returns, rfl, hex, htr⟩ s.heap [] ls 0 0 (Nat.le_refl _) (Nat.zero_le _) hw va_S.rf hlo
section WX1
variable {X : wt_X} {cc : ByteArray} {nL : Nat} {own : String} {d Km K : Nat} {σ : wt_St} {pc : Nat} {lv : List (Option Value)} {st : List Value}
theorem wt_kup {K' : Nat} (h : K ≤ K') (k : wt_V X K' σ pc lv st) : wt_V X K σ pc lv st :=
  fun H locs ls ce sl h1 h2 hw hS hl => k H locs ls ce sl (by omega) (by omega) hw hS hl
theorem wt_iretX {mc : Nat} (h : wt_Ok X cc nL own d Km) {x : Int32} (hR : wt_RtX X (some .int) mc 0 (some x) σ) (hK : K ≤ mc) (hd : decode cc pc = .ok (.ireturn, 1)) : wt_V X K σ pc lv [.int x] := by
  intro H locs ls ce sl h1 h2 hw hS hl
  obtain ⟨hr, hQ, -, -⟩ := hR
  show W _ _ _ _ _ _ _ _ _ _ _ _ _ _ (wt_xQ X) _
  rw [hQ]
  refine W.widen (k := mc) (n := 16 * mc) (by omega) (by omega) (vx_ret ?_)
  exact W.iret h.1 h.2.1 hr (fun t ht hW => ⟨rfl, ⟨rfl, (fun z => by cases z), by rw [ht]; exact hw⟩, hS.F ht⟩) hS.2.2 hd h.2.2.2.2.2.2.2.2.2.2.2.2.1
theorem wt_vretX {mc : Nat} (h : wt_Ok X cc nL own d Km) (hR : wt_RtX X none mc 0 none σ) (hK : K ≤ mc) (hd : decode cc pc = .ok (.return_, 1)) : wt_V X K σ pc lv [] := by
  intro H locs ls ce sl h1 h2 hw hS hl
  obtain ⟨hr, hQ, -, -⟩ := hR
  show W _ _ _ _ _ _ _ _ _ _ _ _ _ _ (wt_xQ X) _
  rw [hQ]
  refine W.widen (k := mc) (n := 16 * mc) (by omega) (by omega) (vx_ret ?_)
  exact W.vret h.1 h.2.1 hr (fun t ht hW => ⟨rfl, ⟨rfl, (fun z => by cases z), by rw [ht]; exact hw⟩, hS.F ht⟩) hS.2.2 hd h.2.2.2.2.2.2.2.2.2.2.2.2.1
theorem wt_xcOf {e : Nat} {H : Heap} {locs : List Loc} (he : e ≠ 0) (hw : wt_Wd (wt_xw X) σ H) (hS : va_S (wt_A (wt_xw X) (wt_xs X).heap.size) (wt_xs X).heap H locs) (t : State) (h2 : H.size ≤ t.heap.size) (h3 : ∀ q : Nat, q < H.size → t.heap[q]? = H[q]?) : wt_XC (wt_xw X) e σ (wt_xs X).heap.size (wt_exn e) (wt_xs X) t :=
  ⟨he, rfl, ⟨fun i hi => (hw.1 i hi).kept (h3 _ (hw.1 i hi).lt), hw.2⟩, Nat.le_trans hS.1 h2, fun q g1 g2 => by rw [h3 q (Nat.lt_of_lt_of_le g1 hS.1)]; exact hS.2.1 q g1 g2⟩

theorem wt_thrI {mc : Nat} {rt : Option FieldType} {r : Option Int32} (h : wt_Ok X cc nL "WornType" d Km) (hR : wt_RtX X rt mc 1 r σ) {is : Nat} {text : String} (i : Nat) (hx : wt_xlits[i]? = some (is, text)) (h6 : 6 ≤ d) (hK : K + 1 ≤ mc) (hKm : mc ≤ Km) (hst : (st.map fun v => v.category).sum ≤ 8)
    (d0 : decode cc pc = .ok (.new 167, 3)) (d3 : decode cc (pc + 3) = .ok (.dup, 1)) (d4 : decode cc (pc + 4) = .ok (.ldc is, 2)) (d6 : decode cc (pc + 6) = .ok (.invokespecial 171, 3)) (d9 : decode cc (pc + 9) = .ok (.athrow, 1)) : wt_V X K σ pc lv st := by
  intro H locs ls ce sl h1 h2 hw hS hl
  obtain ⟨hx0, hb, hml, hn, hown, hts, hKK, hN, r1, r2, r3, r4, hlk, hFX⟩ := id h
  obtain ⟨hr, hQ, hex, htr⟩ := hR
  obtain ⟨sa, hsa⟩ := hFX.2.1 _ (List.mem_of_getElem? hx)
  show W _ _ _ _ _ _ _ _ _ _ _ _ _ _ (wt_xQ X) _
  rw [hQ]
  refine vx_throwS (names := wt_nms) (cls := "java/lang/IllegalArgumentException") (own := "WornType") (text := text) hx0 hb htr hown (by decide +kernel) (by decide +kernel) (hts _ wt_xkI) (hts _ wt_xiI) hsa (fun z hz => ?_) (fun z hz => ?_) hFX.2.2.2.2.1 hFX.2.2.2.2.2 hS (by rw [hl.1, hn, hml]) d0 d3 d4 d6 d9 (fun x hx => (hex x hx).elim) (by show 2 + 3 < _; omega) (by show _ + (13 * (2 + 1) + 43) ≤ _; omega) (by omega) (by omega) hlk (fun t _ g2 g3 => wt_xcOf (e := 1) (by decide) hw hS t g2 g3) hS.2.2 (by omega) (by omega)
  · rcases wt_xwI z hz with g | g
    · exact hts z g
    · exact wt_NWn hN g
  · rcases List.mem_cons.mp hz with e | hz
    · rw [e]; exact wt_ot (Or.inl wt_xkI)
    · rcases List.mem_cons.mp hz with e | hz
      · rw [e]; exact wt_ot (Or.inl wt_xiI)
      · exact wt_ot (wt_xwI z hz)
theorem wt_thrIW {mc : Nat} {rt : Option FieldType} {r : Option Int32} (h : wt_Ok X cc nL "WornType" d Km) (hR : wt_RtX X rt mc 1 r σ) {is : Nat} {text : String} (i : Nat) (hx : wt_xlits[i]? = some (is, text)) (h6 : 6 ≤ d) (hK : K + 1 ≤ mc) (hKm : mc ≤ Km) (hst : (st.map fun v => v.category).sum ≤ 8)
    (d0 : decode cc pc = .ok (.new 167, 3)) (d3 : decode cc (pc + 3) = .ok (.dup, 1)) (d4 : decode cc (pc + 4) = .ok (.ldc_w is, 3)) (d6 : decode cc (pc + 7) = .ok (.invokespecial 171, 3)) (d9 : decode cc (pc + 10) = .ok (.athrow, 1)) : wt_V X K σ pc lv st := by
  intro H locs ls ce sl h1 h2 hw hS hl
  obtain ⟨hx0, hb, hml, hn, hown, hts, hKK, hN, r1, r2, r3, r4, hlk, hFX⟩ := id h
  obtain ⟨hr, hQ, hex, htr⟩ := hR
  obtain ⟨sa, hsa⟩ := hFX.2.1 _ (List.mem_of_getElem? hx)
  show W _ _ _ _ _ _ _ _ _ _ _ _ _ _ (wt_xQ X) _
  rw [hQ]
  refine vx_throwSW (names := wt_nms) (cls := "java/lang/IllegalArgumentException") (own := "WornType") (text := text) hx0 hb htr hown (by decide +kernel) (by decide +kernel) (hts _ wt_xkI) (hts _ wt_xiI) hsa (fun z hz => ?_) (fun z hz => ?_) hFX.2.2.2.2.1 hFX.2.2.2.2.2 hS (by rw [hl.1, hn, hml]) d0 d3 d4 d6 d9 (fun x hx => (hex x hx).elim) (by show 2 + 3 < _; omega) (by show _ + (13 * (2 + 1) + 43) ≤ _; omega) (by omega) (by omega) hlk (fun t _ g2 g3 => wt_xcOf (e := 1) (by decide) hw hS t g2 g3) hS.2.2 (by omega) (by omega)
  · rcases wt_xwI z hz with g | g
    · exact hts z g
    · exact wt_NWn hN g
  · rcases List.mem_cons.mp hz with e | hz
    · rw [e]; exact wt_ot (Or.inl wt_xkI)
    · rcases List.mem_cons.mp hz with e | hz
      · rw [e]; exact wt_ot (Or.inl wt_xiI)
      · exact wt_ot (wt_xwI z hz)
theorem wt_thrO {mc : Nat} {rt : Option FieldType} {r : Option Int32} (h : wt_Ok X cc nL "WornType" d Km) (hR : wt_RtX X rt mc 3 r σ) {is : Nat} {text : String} (i : Nat) (hx : wt_xlits[i]? = some (is, text)) (h6 : 6 ≤ d) (hK : K + 1 ≤ mc) (hKm : mc ≤ Km) (hst : (st.map fun v => v.category).sum ≤ 8)
    (d0 : decode cc pc = .ok (.new 205, 3)) (d3 : decode cc (pc + 3) = .ok (.dup, 1)) (d4 : decode cc (pc + 4) = .ok (.ldc is, 2)) (d6 : decode cc (pc + 6) = .ok (.invokespecial 209, 3)) (d9 : decode cc (pc + 9) = .ok (.athrow, 1)) : wt_V X K σ pc lv st := by
  intro H locs ls ce sl h1 h2 hw hS hl
  obtain ⟨hx0, hb, hml, hn, hown, hts, hKK, hN, r1, r2, r3, r4, hlk, hFX⟩ := id h
  obtain ⟨hr, hQ, hex, htr⟩ := hR
  obtain ⟨sa, hsa⟩ := hFX.2.1 _ (List.mem_of_getElem? hx)
  show W _ _ _ _ _ _ _ _ _ _ _ _ _ _ (wt_xQ X) _
  rw [hQ]
  refine vx_throwS (names := wt_nms) (cls := "java/lang/IndexOutOfBoundsException") (own := "WornType") (text := text) hx0 hb htr hown (by decide +kernel) (by decide +kernel) (hts _ wt_xkO) (hts _ wt_xiO) hsa (fun z hz => ?_) (fun z hz => ?_) hFX.2.2.2.2.1 hFX.2.2.2.2.2 hS (by rw [hl.1, hn, hml]) d0 d3 d4 d6 d9 (fun x hx => (hex x hx).elim) (by show 2 + 3 < _; omega) (by show _ + (13 * (2 + 1) + 43) ≤ _; omega) (by omega) (by omega) hlk (fun t _ g2 g3 => wt_xcOf (e := 3) (by decide) hw hS t g2 g3) hS.2.2 (by omega) (by omega)
  · rcases wt_xwO z hz with g | g
    · exact hts z g
    · exact wt_NWn hN g
  · rcases List.mem_cons.mp hz with e | hz
    · rw [e]; exact wt_ot (Or.inl wt_xkO)
    · rcases List.mem_cons.mp hz with e | hz
      · rw [e]; exact wt_ot (Or.inl wt_xiO)
      · exact wt_ot (wt_xwO z hz)
set_option maxHeartbeats 4000000 in
theorem wt_thrN {mc : Nat} {rt : Option FieldType} {r : Option Int32} (h : wt_Ok X cc nL "WornType" d Km) (hR : wt_RtX X rt mc 2 r σ) (h6 : 6 ≤ d) (hK : K + 1 ≤ mc) (hKm : mc ≤ Km) (hst : (st.map fun v => v.category).sum ≤ 8)
    (d0 : decode cc pc = .ok (.new 360, 3)) (d3 : decode cc (pc + 3) = .ok (.dup, 1)) (d4 : decode cc (pc + 4) = .ok (.ldc_w 362, 3)) (d7 : decode cc (pc + 7) = .ok (.invokespecial 364, 3)) (d10 : decode cc (pc + 10) = .ok (.athrow, 1)) : wt_V X K σ pc lv st := by
  intro H locs ls ce sl h1 h2 hw hS hl
  obtain ⟨hexec, hb, hml, hn, hown, hts, hKK, hN, r1, r2, r3, r4, hlocks, hFX⟩ := id h
  obtain ⟨hr, hQ, hex, htr0⟩ := hR
  obtain ⟨sa, hstr⟩ := hFX.2.1 _ (List.mem_of_getElem? (i := 6) (show wt_xlits[6]? = some _ from rfl))
  have hU := hFX.2.2.2.2.1
  have hNN := hFX.2.2.2.2.2
  have hgd : ∀ z ∈ wt_oaN, z.before (wt_xa X) (wt_xs X) = true := fun z hz => by
    rcases wt_xwN z hz with g | g
    · exact hts z g
    · exact wt_NWn hN g
  show W _ _ _ _ _ _ _ _ _ _ _ _ _ _ (wt_xQ X) _
  rw [hQ]
  intro T hT Y0
  have htr : (wt_xe X).platform.stackTraces = false := (show (wt_xe X).platform.stackTraces = (wt_xl X).stackTraces by rw [Y0.admits.platform]).trans htr0
  have Y := vx_rebase Y0 (R' := { frames := (wt_xR X).frames, locals := (wt_xR X).locals, cells := 1, slots := 6 }) (Nat.le_refl _) (Nat.le_refl _) (by show ce + 1 ≤ _; omega) (by show sl + 6 ≤ _; omega)
  obtain ⟨s', hA⟩ : ∃ z, z = (T.setVm (wt_xs X).vm).setFrames (.invoking (wt_xm X) (wt_xa X) :: (wt_xb X)) := ⟨_, rfl⟩
  rw [← hA] at Y
  have hvm : s'.vm = (wt_xs X).vm := by rw [hA]; rfl
  have hhp : s'.heap = H := by rw [hA]; exact hT
  have hW0 : (wt_xs X).WarmedH s'.vm := by rw [hvm]; exact State.WarmedH.refl _
  have hat' : ∀ w ∈ wt_oaN, w.before (wt_xa X) s' = true := fun w hw => vx_ot_at hW0 hvm.symm (wt_ot (wt_xwN w hw)) (hgd w hw)
  have hk' : (Cond.classLink "WornType" 360 "java/util/NoSuchElementException").before (wt_xa X) s' = true := vx_ot_at hW0 hvm.symm (wt_ot (Or.inl wt_xkN)) (hts _ wt_xkN)
  have hini' : (Cond.initialized "java/util/NoSuchElementException").before (wt_xa X) s' = true := vx_ot_at hW0 hvm.symm (wt_ot (Or.inl wt_xiN)) (hts _ wt_xiN)
  have hU' : vx_Zq Bundle.tN "UNASSIGNED_STACK" Bundle.steD (wt_A (wt_xw X) (wt_xs X).heap.size) s' s'.heap := by rw [hhp]; exact vx_Zq.moved hW0.alike (hU.kept hS.2.1)
  have hN' : vx_Zq Bundle.tN "SUPPRESSED_SENTINEL" Bundle.listD (wt_A (wt_xw X) (wt_xs X).heap.size) s' s'.heap := by rw [hhp]; exact vx_Zq.moved hW0.alike (hNN.kept hS.2.1)
  have hall0 : ∀ w ∈ wt_oaX "WornType" 364 "java/util/NoSuchElementException" "java/lang/RuntimeException" 13 prog_29_method_4_code ["java/lang/Exception"], w.before (wt_xa X) s' = true := vx_own hat' (vx_isRefq hU'.1) (vx_isRefq hN'.1) hU'.2.word hN'.2.word
  have hown' : s'.vm.findClass "WornType" = some (wt_xm X).cls := by rw [hvm]; exact hown
  have hins : (Cond.instantiable "java/util/NoSuchElementException" 6).before (wt_xa X) s' = true := hall0 _ (by simp [wt_oaX])
  obtain ⟨vm₁, cX, kX, hfX, hkX, -, -, X₁, st1⟩ := Y.newCold hexec (own := "WornType") (C := "java/util/NoSuchElementException") (index := 360) (n := 6) hown' hk' hins hini'
    (g := F0 (wt_xm X) pc ls st) rfl (by rw [hb]; exact d0) (Nat.le_refl _) (Nat.le_refl _)
  generalize hT1 : (T.setVm vm₁).pushCell { cls := cX, slots := kX.instanceTypes.map defaultValue, vm := .none } = T1 at X₁ st1
  have hcat : (Value.ref T.heap.size).category = 1 := rfl
  have hcellA : T1.heap[T.heap.size]? = some (freshCell cX kX) := by rw [← hT1]; exact State.heap_pushCell_size _ _
  have d3' : decode (wt_xc X).code (pc + 3) = .ok (.dup, 1) := by rw [hb]; exact d3
  have d4' : decode (wt_xc X).code (pc + 4) = .ok (.ldc_w 362, 3) := by rw [hb]; exact d4
  have hstr' : vk_R "WornType" 362 "no such word, text or page" sa s' := vk_R.warm hW0 hstr
  obtain ⟨U, hsteps, hrun, hend, hW, hsame, ce9, hce, hcl9, hvm9⟩ := wt_ctorX X₁ hexec htr (own := "WornType") (cls := "java/util/NoSuchElementException") (Yc := "java/lang/RuntimeException") (r := ["java/lang/Exception"]) (ic := 364) wt_nse0 wt_nse1 wt_nse2 wt_nse5 hown' (by decide +kernel) (by decide +kernel) (by decide +kernel) hall0 (fun x hx => nomatch hx) hfX hkX hcellA (by rw [hhp, hT]; exact Nat.le_refl _) (msg := .ref sa) rfl
    (g := { method := (wt_xm X), pc := pc + 7, locals := ls, stack := .ref sa :: .ref T.heap.size :: .ref T.heap.size :: st, locked := none }) rfl (by show ls.size = _; rw [hl.1, hn, hml]) rfl rfl (rest := st) rfl
    (by rw [hb]; exact d7) (by rw [hb]; exact d10) (fun x hx => (hex x hx).elim) (by show 1 + 1 + 3 < (wt_xR X).frames; omega) (by show 2 * 0 + _ + (13 * (1 + 1 + 1) + 42) ≤ (wt_xR X).locals; simp only [List.map_cons, List.sum_cons, hcat]; omega) hlocks
  obtain ⟨f1, f2⟩ := vx_frame hsame
  rw [hhp] at f1 f2
  have hWs : (wt_xs X).WarmedH U.vm := State.WarmedH.trans hW0 hW
  have hcl : (wt_xs X).vm.findClass "java/util/NoSuchElementException" = some ce9.cls := by
    rw [hvm] at hcl9
    exact hcl9
  have hall : (wt_xs X).sameButNew ({ U with vm := (wt_xs X).vm } : State) locs mc (16 * mc) := by
    subst hA
    obtain ⟨e1, e2⟩ := hsame
    rw [State.setFrames_setFrames] at e1
    have h2' : (T.setVm (wt_xs X).vm).sameButNew ({ U with vm := (wt_xs X).vm } : State) [] (0 + 1) (0 + 6) := ⟨e1, e2⟩
    have h3 := Y0.same.trans h2'
    rw [List.append_nil] at h3
    exact h3.mono (by omega) (by omega)
  refine ⟨U, ?_, .threw T.heap.size, hrun, hend, Or.inr ⟨T.heap.size, rfl, "java/util/NoSuchElementException", ce9, locs, wt_xcOf (e := 2) (by decide) hw hS U f1 (fun q hq => f2 q hq (fun z hz => nomatch hz)), hce, hvm9, hcl, hWs, hall, hS.2.2⟩⟩
  refine st1 _ ?_
  show Steps (wt_xp X).tables (wt_xe X) (wt_xb X) (T1.setTop { method := (wt_xm X), pc := pc + 3, locals := ls, stack := .ref T.heap.size :: st, locked := none }) _
  jvm_step X₁.here [X₁.here.top, hexec, d3', Value.category]
  exact X₁.ldcStringW hexec (own := "WornType") (text := "no such word, text or page") (index := 362) (a := sa) hown' hstr'.1 hstr'.2
    (g := { method := (wt_xm X), pc := pc + 4, locals := ls, stack := .ref T.heap.size :: .ref T.heap.size :: st, locked := none }) rfl d4' _ hsteps
def wt_MD (own : String) (idx : Nat) (y : MethodName) : Prop := Cond.methodLink own idx y ∈ wt_GT ∧ Cond.static y ∈ wt_GT ∧ Cond.initialized y.cls ∈ wt_GT
/-- a static callee that may throw; nothing here catches -/
theorem wt_callSX (h : wt_Ok X cc nL own d Km) {idx : Nat} {y : MethodName} {b : ByteArray} {n k dd mc' mc : Nat} {rt rt0 : Option FieldType} (As : List Value) {st0 : List Value} {e : Nat} {r : Option Int32} {σ' : wt_St} (mv : wt_MD own idx y) (hy : wt_Ya y b n rt k) (hc : wt_CtrX (wt_xl X) (wt_xw X) y b n rt dd mc' As σ e r σ') (hd1 : dd + 1 ≤ d) (hlen : As.length = k) (hst : As.reverse ++ st = st0) (hro : (st.map fun v => v.category).sum ≤ 8) (hK : K + mc' ≤ mc) (hKm : mc ≤ Km) (hd : decode cc pc = .ok (.invokestatic idx, 3))
    (kx : e ≠ 0 → ∃ r0, wt_RtX X rt0 mc e r0 σ') (kk : e = 0 → wt_V X (K + mc') σ' (pc + 3) lv ((r.map .int).toList ++ st)) : wt_V X K σ pc lv st0 := by
  intro H locs ls ce sl h1 h2 hw hS hl
  obtain ⟨hlink, hstt, hini⟩ := mv
  obtain ⟨hx, hb, hml, hn, hown, hts, hKK, hN, r1, r2, r3, r4, hlk, hFX⟩ := id h
  have hps : PreS (wt_xs X) H (wt_PcS (wt_xw X) wt_S0 As σ H.size) As := ⟨wt_blind _ wt_True_fx _ _ _, fun U hU hW => wt_pre wt_True_fx hKK hN hFX trivial hS hw hU hW⟩
  have hfix : CallFix (wt_xp X) (wt_xm X) (wt_xc X) cc nL (wt_xs X) (wt_xa X) wt_GT own := ⟨hx, hb, hml, hown, hts⟩
  have hsz : ls.size = nL := by rw [hl.1, hn]
  have hroo : (wt_rmX dd mc').frames + 1 ≤ (wt_xR X).frames ∧ 8 + (n + 11) + (wt_rmX dd mc').locals ≤ (wt_xR X).locals := by
    have := hy.2.2
    exact ⟨by show dd + 1 ≤ _; omega, by show 8 + (n + 11) + 64 * dd ≤ _; omega⟩
  · have hrun := vx_runS hfix (hc H.size) ⟨callB_of k hts (wt_goodG h hy.2.1) rfl rfl rfl (hts _ hini) (hts _ hlink) hy.1 hroo, hts _ hstt⟩ hps (g := F0 (wt_xm X) pc ls st0) (rest := st) (l := wt_xl X) (e := wt_xe X) (below := wt_xb X) (meth := wt_xM X) (locs := locs) (cells := ce) (slots := sl) rfl hlen hsz hst.symm (lv_room hro) hd ⟨by omega, by omega⟩
    have hAA : ∀ q : Nat, wt_A (wt_xw X) H.size q → wt_A (wt_xw X) (wt_xs X).heap.size q := fun q hq => hq.elim Or.inl (fun z => Or.inr (Nat.le_trans hS.1 z))
    have hjoin : ∀ {st₀ t T' : State} {L : List Loc}, st₀.heap = H → T'.heap = t.heap → va_F (wt_A (wt_xw X) H.size) st₀ t → (∀ q ∈ L, wt_A (wt_xw X) H.size q.base) → va_S (wt_A (wt_xw X) (wt_xs X).heap.size) (wt_xs X).heap T'.heap (locs ++ L) := by
      intro st₀ t T' L h0 e1 ⟨hz, hk⟩ hL
      rw [h0] at hz hk
      refine ⟨Nat.le_trans hS.1 (by rw [e1]; exact hz), fun q g1 g2 => ?_, fun q hq => ?_⟩
      · rw [e1, hk q (Nat.lt_of_lt_of_le g1 hS.1) (fun z => g2 (hAA q z))]
        exact hS.2.1 q g1 g2
      · rcases List.mem_append.mp hq with g | g
        · exact hS.2.2 q g
        · exact hAA _ (hL q g)
    intro T hT Y
    rcases hrun T hT Y with ⟨v, st₀, t, T', L, h0, Y', hL, e1, e2, ⟨he, ⟨hv, hbo, hwd⟩, hF⟩, stp⟩ | ⟨q, st₀, t, T', L, E, ce9, h0, Y', hL, e1, e2, ⟨he, hE, hwd, hF⟩, g1, g2, g3, stp⟩
    · have hv2 : v = r.map .int := Outcome.returned.inj hv
      subst hv2
      obtain ⟨t2, a1, b1⟩ := kk he T'.heap (locs ++ L) ls (ce + mc') (sl + 16 * mc') (by omega) (by omega) (by rw [e1]; exact hwd) (hjoin h0 e1 hF hL) hl T' rfl Y'
      exact ⟨t2, stp t2 a1, b1⟩
    · obtain ⟨r0, hR⟩ := kx he
      obtain ⟨hr, hQ, hex, htr⟩ := hR
      have hS2 := hjoin h0 e1 hF hL
      have hwd2 : wt_Wd (wt_xw X) σ' T'.heap := by rw [e1]; exact hwd
      subst hE
      have ho : vx_W (wt_xp X) (wt_xl X) (wt_xe X) (wt_xR X) (wt_xs X) (wt_xm X) (wt_xa X) (wt_xb X) (wt_xM X) (wt_xc X) T'.heap (locs ++ L) (ce + mc') (sl + 16 * mc') (wt_xQ X) (F0 (wt_xm X) pc ls st) q := by
        rw [hQ]
        exact vx_out (fun x hx => (hex x hx).elim) hlk (by rw [e1]; exact g1) g2 g3 (fun t0 ht0 _ => wt_xcOf he hwd2 hS2 t0 (by rw [ht0]; exact Nat.le_refl _) (fun q _ => by rw [ht0])) hS2.2.2 (by omega) (by omega)
      obtain ⟨t2, a1, b1⟩ := ho T' rfl Y'
      exact ⟨t2, stp.trans a1, b1⟩
theorem wt_callSXv (h : wt_Ok X cc nL own d Km) {idx : Nat} {y : MethodName} {b : ByteArray} {n k dd mc' mc : Nat} {rt rt0 : Option FieldType} (As : List Value) {st0 : List Value} {e : Nat} {σ' : wt_St} (mv : wt_MD own idx y) (hy : wt_Ya y b n rt k) (hc : wt_CtrX (wt_xl X) (wt_xw X) y b n rt dd mc' As σ e none σ') (hd1 : dd + 1 ≤ d) (hlen : As.length = k) (hst : As.reverse ++ st = st0) (hro : (st.map fun v => v.category).sum ≤ 8) (hK : K + mc' ≤ mc) (hKm : mc ≤ Km) (hd : decode cc pc = .ok (.invokestatic idx, 3))
    (kx : e ≠ 0 → ∃ r0, wt_RtX X rt0 mc e r0 σ') (kk : e = 0 → wt_V X (K + mc') σ' (pc + 3) lv st) : wt_V X K σ pc lv st0 := wt_callSX h As mv hy hc hd1 hlen hst hro hK hKm hd kx kk
end WX1
