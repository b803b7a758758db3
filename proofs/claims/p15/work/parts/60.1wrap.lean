/-! the law's small methods: they call the class once, catch what it throws, and answer an int -/
def wt_PcW (w : wt_E) (o : Nat) (av : List Value) (σ : wt_St) (sz : Nat) : Array Value → State → Prop := va_Pc av (fun U => U.heap.size = sz ∧ wt_Wd w σ U.heap ∧ va_K (wt_wD w) wt_cl (wt_tys w) U ∧ wt_NW U ∧ wt_FX (wt_Ao w o sz) U U.heap ∧ wt_out o U U.heap ∧ wt_SN (wt_Ao w o sz) U U.heap)
def wt_QcW (w : wt_E) (o : Nat) (σ' : wt_St) (sz : Nat) : Array Value → State → Outcome → State → Prop := fun _ st oc t => (∃ r : Int32, oc = .returned (some (.int r)) ∧ wt_Wd w σ' t.heap ∧ wt_out o t t.heap) ∧ va_F (wt_Ao w o sz) st t
def wt_XF : String → State → State → Prop := fun _ _ _ => False
abbrev wt_wsW (y : MethodName) (b : ByteArray) (n : Nat) (hh : List (Nat × Nat × Nat × Nat)) : List Cond := .codeWith y b n (some .int) hh :: wt_GT
def wt_CtrW (l : Launch) (w : wt_E) (o : Nat) (y : MethodName) (b : ByteArray) (n : Nat) (hh : List (Nat × Nat × Nat × Nat)) (d mc : Nat) (av : List Value) (σ σ' : wt_St) : Prop := ∀ sz : Nat, vx_Met l y (wt_wsW y b n hh) (wt_rmX d mc) (wt_PcW w o av σ sz) (wt_QcW w o σ' sz) wt_XF mc (16 * mc) (wt_Ao w o sz)
def wt_RtW (X : wt_X) (o mc : Nat) (hh : List (Nat × Nat × Nat × Nat)) (σ' : wt_St) : Prop := (wt_xM X).sig.returnType = some .int ∧ wt_xQ X = vx_MQ (wt_xb X) (wt_QcW (wt_xw X) o σ' (wt_xs X).heap.size) wt_XF (wt_xa X) (wt_xs X) mc (16 * mc) (wt_Ao (wt_xw X) o (wt_xs X).heap.size) ∧ (wt_xc X).exceptionTable.toList = tableOf hh ∧ (wt_xl X).stackTraces = false ∧ wt_SN (wt_Ao (wt_xw X) o (wt_xs X).heap.size) (wt_xs X) (wt_xs X).heap
theorem wt_FX_nar {A B : Nat → Prop} {U : State} {H : Heap} (h : wt_FX A U H) (hq : ∀ q, B q → A q) : wt_FX B U H := wt_FX_fx.2.1 _ _ _ _ h hq
theorem wt_ctrW {l : Launch} (htr : l.stackTraces = false) {w : wt_E} {o : Nat} (hod : ∀ i, wt_dom w i → wt_ad w i ≠ o) {y : MethodName} {b : ByteArray} {n : Nat} {hh : List (Nat × Nat × Nat × Nat)} {d mc : Nat} {av : List Value} {σ σ' : wt_St} (hy : plainName y.cls = true) (hcm : Cond.codeWith y b n (some .int) hh ∈ wt_GT) (hc : av.all (fun v => v.category == 1) = true) (hle : (lg_sl av).length ≤ n) (lv : List (Option Value)) (hlv : lv = av.map some ++ List.replicate (n - av.length) none)
    (body : ∀ X : wt_X, wt_xl X = l → wt_xw X = w → wt_OkO X o b n y.cls d mc → wt_RtW X o mc hh σ' → wt_O X o 0 σ 0 lv []) : wt_CtrW l w o y b n hh d mc av σ σ' := by
  intro sz
  refine vx_ofWH (cc := b) (maxL := n) (ret := some .int) (hh := hh) hy rfl ?_
  intro p e s m args below meth c s₁ B hml hv
  obtain ⟨rfl, hsz, hw, hK, hN, hF, ho, hSN⟩ := hv
  have hts := atoms_spec (ws := wt_wsW y b n hh) B.pre
  have hown : s.vm.findClass y.cls = some m.cls := findClass_of_methodNamed B.named
  have hT := vx_table (x := y) B (hts _ (List.mem_cons_of_mem _ hcm))
  subst hsz
  have hlo := wt_args_lo (n := n) hc hle
  rw [← hlv] at hlo
  rw [lg_entry_eq]
  have hX := body ((p, l, e, (headSpec (wt_wsW y b n hh) (wt_rmX d mc)).room, s, m, av.toArray, below, meth, c), w, n, vx_MQ below (wt_QcW w o σ' s.heap.size) wt_XF av.toArray s mc (16 * mc) (wt_Ao w o s.heap.size)) rfl rfl ⟨⟨B.exec, B.bytes, hml, rfl, hown, fun z hz => hts z (List.mem_cons_of_mem _ hz), hK, hN, Nat.le_refl _, Nat.le_refl _, Nat.le_refl _, Nat.le_refl _, B.notSynchronized, wt_FX_nar hF (fun q hq => Or.inr hq)⟩, hF, hod⟩ ⟨B.returns, rfl, hT, htr, hSN⟩
  exact hX s.heap [] _ 0 0 (Nat.le_refl _) (Nat.zero_le _) hw ho va_S.rf hlo
section WO2
variable {X : wt_X} {o : Nat} {cc : ByteArray} {nL : Nat} {own : String} {d Km K : Nat} {σ : wt_St} {pc : Nat} {lv : List (Option Value)} {st : List Value}
theorem wt_o_ret {mc : Nat} {hh : List (Nat × Nat × Nat × Nat)} (h : wt_OkO X o cc nL own d Km) {x : Int32} (hR : wt_RtW X o mc hh σ) (hK : K ≤ mc) (hd : decode cc pc = .ok (.ireturn, 1)) : wt_O X o K σ pc lv [.int x] := by
  intro H locs ls ce sl h1 h2 hw ho hS hl
  obtain ⟨hr, hQ, -, -, -⟩ := hR
  show W _ _ _ _ _ _ _ _ _ _ _ _ _ _ (wt_xQ X) _
  rw [hQ]
  refine W.widen (k := mc) (n := 16 * mc) (by omega) (by omega) (vx_ret ?_)
  exact W.iret h.1.1 h.1.2.1 hr (fun t ht hW => ⟨⟨x, rfl, by rw [ht]; exact hw, by rw [ht]; exact ho.moved hW.alike⟩, hS.F ht⟩) hS.2.2 hd h.1.2.2.2.2.2.2.2.2.2.2.2.2.1
/-- what a thrown thing meets in the table: the handler at hp takes it -/
def wt_Hd (X : wt_X) (own : String) (hh : List (Nat × Nat × Nat × Nat)) (pc e hp : Nat) : Prop := ∃ (pre : List ExceptionTableEntry) (x : ExceptionTableEntry) (suf : List ExceptionTableEntry) (nm : String), tableOf hh = pre ++ x :: suf ∧ (∀ z ∈ pre, covers z pc = false ∨ (z.catchType ≠ 0 ∧ ∃ nm : String, Cond.classLink own z.catchType nm ∈ wt_GT ∧ va_Nc (wt_exn e) nm (wt_xs X))) ∧ covers x pc = true ∧ x.catchType ≠ 0 ∧ Cond.classLink own x.catchType nm ∈ wt_GT ∧ Cond.castable (wt_exn e) nm ∈ wt_NT ∧ x.handlerPc = hp
theorem wt_o_callX {hh : List (Nat × Nat × Nat × Nat)} {mc : Nat} {σ0 : wt_St} (h : wt_OkO X o cc nL own d Km) (hR : wt_RtW X o mc hh σ0) {idx : Nat} {y : MethodName} {b : ByteArray} {n k dd mc' ci nn N i : Nat} {rs : List Nat} {T : u_T} {rt : Option FieldType} (As : List Value) {st0 : List Value} {e : Nat} {r : Int32} {σ' : wt_St} (mv : wt_MV own idx y) (hml0 : Cond.methodLink own idx y ∈ wt_GT) (hy : wt_Ya y b n rt k) (hc : wt_CtrX (wt_xl X) (wt_xw X) y b n rt dd mc' (.ref (wt_ad (wt_xw X) i) :: As) σ e (some r) σ') (hd1 : dd + 1 ≤ d) (hi : wt_dom (wt_xw X) i) (hL : wt_LAY[i]? = some (ci + 3, nn, rs)) (hcl : wt_cl[ci]? = some (y.cls, T, N)) (hlen : As.length = k) (hst : As.reverse ++ .ref (wt_ad (wt_xw X) i) :: st = st0) (hro : (st.map fun v => v.category).sum ≤ 8) (hK : K + mc' ≤ Km) (hd : decode cc pc = .ok (.invokevirtual idx, 3))
    (kx : e ≠ 0 → ∃ hp, wt_Hd X own hh pc e hp ∧ ∀ q, wt_O X o (K + mc') σ' hp lv [.ref q]) (kk : e = 0 → wt_O X o (K + mc') σ' (pc + 3) lv (.int r :: st)) : wt_O X o K σ pc lv st0 := by
  intro H locs ls ce sl h1 h2 hw ho hS hl
  obtain ⟨-, hin, hsel, hini⟩ := mv
  obtain ⟨⟨hx, hb, hml, hn, hown, hts, hKK, hN, r1, r2, r3, r4, hlk, -⟩, hFX, hod⟩ := id h
  have hP := hw.one hi
  unfold wt_cell at hP
  rw [wt_ce_ob hL] at hP
  have hrecv := va_recv hKK hP hcl (q0 := 0) rfl
  have hpv : PreV (wt_xs X) H y.cls (wt_ad (wt_xw X) i) (wt_PcS (wt_xw X) wt_S0 (.ref (wt_ad (wt_xw X) i) :: As) σ H.size) As := ⟨wt_blind _ wt_True_fx _ _ _, hrecv, fun U hU hW => wt_o_pre hKK hN hFX hS hw hU hW⟩
  have hfix : CallFix (wt_xp X) (wt_xm X) (wt_xc X) cc nL (wt_xs X) (wt_xa X) wt_GT own := ⟨hx, hb, hml, hown, hts⟩
  have hsz : ls.size = nL := by rw [hl.1, hn]
  have hroo : (wt_rmX dd mc').frames + 1 ≤ (wt_xR X).frames ∧ 8 + (n + 11) + (wt_rmX dd mc').locals ≤ (wt_xR X).locals := by
    have := hy.2.2
    exact ⟨by show dd + 1 ≤ _; omega, by show 8 + (n + 11) + 64 * dd ≤ _; omega⟩
  have hrun := vx_runV hfix (hc H.size) ⟨callB_of k hts (wt_goodG h.1 hy.2.1) rfl rfl rfl (hts _ hini) (hts _ hml0) hy.1 hroo, hts _ hin, hts _ hsel⟩ hpv (g := F0 (wt_xm X) pc ls st0) (rest := st) (l := wt_xl X) (e := wt_xe X) (below := wt_xb X) (meth := wt_xM X) (locs := locs) (cells := ce) (slots := sl) rfl hlen hsz hst.symm (lv_room hro) hd ⟨by omega, by omega⟩
  intro T hT Y
  rcases hrun T hT Y with ⟨v, st₀, t, T', L, h0, Y', hL, e1, e2, ⟨he, ⟨hv, hbo, hwd⟩, hF⟩, stp⟩ | ⟨q, st₀, t, T', L, E, ce9, h0, Y', hL, e1, e2, ⟨he, hE, hwd, hF⟩, g1, g2, g3, stp⟩
  · have hv2 : v = some (.int r) := Outcome.returned.inj hv
    subst hv2
    obtain ⟨hz, hk⟩ := hF
    rw [h0] at hz hk
    obtain ⟨j1, j2⟩ := wt_o_join rfl hod ho hS (H1 := T'.heap) (L := L) (σ := σ) (by rw [e1]; exact hz) (fun q g1 g2 => by rw [e1]; exact hk q g1 g2) hL
    obtain ⟨t2, a1, b1⟩ := kk he T'.heap (locs ++ L) ls (ce + mc') (sl + 16 * mc') (by omega) (by omega) (by rw [e1]; exact hwd) j2 j1 hl T' rfl Y'
    exact ⟨t2, stp t2 a1, b1⟩
  · obtain ⟨hp, ⟨pre, x, suf, nm, t1, t2, t3, t4, t5, t6, t7⟩, kq⟩ := kx he
    obtain ⟨hz, hk⟩ := hF
    rw [h0] at hz hk
    obtain ⟨j1, j2⟩ := wt_o_join rfl hod ho hS (H1 := T'.heap) (L := L) (σ := σ) (by rw [e1]; exact hz) (fun q g1 g2 => by rw [e1]; exact hk q g1 g2) hL
    subst hE
    have hsp : (wt_xc X).exceptionTable.toList = pre ++ x :: suf := hR.2.2.1.trans t1
    have hcat : vx_W (wt_xp X) (wt_xl X) (wt_xe X) (wt_xR X) (wt_xs X) (wt_xm X) (wt_xa X) (wt_xb X) (wt_xM X) (wt_xc X) T'.heap (locs ++ L) (ce + mc') (sl + 16 * mc') (wt_xQ X) (F0 (wt_xm X) pc ls st) q := by
      refine vx_catch hown pre x suf hsp (fun z hz => ?_) t3 t4 (hts _ t5) (wt_NWn hN t6) (by rw [e1]; exact g1) g2 g3 ?_
      · rcases t2 z hz with a | ⟨a1, nm2, a2, a3⟩
        · exact Or.inl a
        · exact Or.inr ⟨a1, nm2, hts _ a2, a3⟩
      · rw [t7]
        exact kq q T'.heap (locs ++ L) ls (ce + mc') (sl + 16 * mc') (by omega) (by omega) (by rw [e1]; exact hwd) j2 j1 hl
    obtain ⟨t9, a1, b1⟩ := hcat T' rfl Y'
    exact ⟨t9, stp.trans a1, b1⟩
/-! the law calls one of them -/
theorem wt_blindW (w : wt_E) (o : Nat) (av : List Value) (σ : wt_St) (sz : Nat) : FrameBlind (wt_PcW w o av σ sz) := fun a U g mk q => by
  obtain ⟨q0, q1, qP, qK, qN, qF, qo, qS⟩ := q
  exact ⟨q0, q1, qP, va_K.moved (u := U) (U := U.calling g mk a) (Vm.Alike.refl U.vm) qK, wt_NW.same (u := U) (U := U.calling g mk a) rfl qN, wt_FX_fx.2.2.2 _ U (U.calling g mk a) _ rfl qF, wt_out.moved (u := U) (U := U.calling g mk a) (Vm.Alike.refl U.vm) qo, wt_SN_fx.2.2.2 _ U (U.calling g mk a) _ rfl qS⟩
theorem wt_o_callW (h : wt_OkO X o cc nL own d Km) (hSN : wt_SN (wt_Ao (wt_xw X) o (wt_xs X).heap.size) (wt_xs X) (wt_xs X).heap) {idx : Nat} {y : MethodName} {b : ByteArray} {n k dd mc : Nat} {hh : List (Nat × Nat × Nat × Nat)} (As : List Value) {st0 : List Value} {σ' : wt_St} (hml0 : Cond.methodLink own idx y ∈ wt_GT) (hstt : Cond.static y ∈ wt_GT) (hini : Cond.initialized y.cls ∈ wt_GT) (hcm : Cond.codeWith y b n (some .int) hh ∈ wt_GT) (hyd : y.cls ≠ "java/lang/invoke/MethodHandle" ∧ y.cls ≠ "java/lang/invoke/VarHandle" ∧ (parseMethodDescriptor y.desc).map (fun d => d.parameters.length) = some k) (hn40 : n ≤ 40) (hc : wt_CtrW (wt_xl X) (wt_xw X) o y b n hh dd mc As σ σ') (hd1 : dd + 1 ≤ d) (hlen : As.length = k) (hst : As.reverse ++ st = st0) (hro : (st.map fun v => v.category).sum ≤ 8) (hK : K + mc ≤ Km) (hd : decode cc pc = .ok (.invokestatic idx, 3))
    (kk : ∀ r : Int32, wt_O X o (K + mc) σ' (pc + 3) lv (.int r :: st)) : wt_O X o K σ pc lv st0 := by
  intro H locs ls ce sl h1 h2 hw ho hS hl
  obtain ⟨⟨hx, hb, hml, hn, hown, hts, hKK, hN, r1, r2, r3, r4, hlk, -⟩, hFX, hod⟩ := id h
  have hAA : ∀ q : Nat, wt_Ao (wt_xw X) o H.size q → wt_Ao (wt_xw X) o (wt_xs X).heap.size q := fun q hq => hq.elim Or.inl (fun z => Or.inr (z.elim Or.inl (fun z => Or.inr (Nat.le_trans hS.1 z))))
  have hps : PreS (wt_xs X) H (wt_PcW (wt_xw X) o As σ H.size) As := ⟨wt_blindW _ _ _ _ _, fun U hU hW => by
    subst hU
    exact ⟨rfl, rfl, hw, va_K.moved hW.alike hKK, hN.warm hW, wt_FX_fx.2.2.1 _ _ _ _ hW (wt_FX_fx.2.1 _ _ _ _ (wt_FX_fx.1 _ _ _ _ hFX hS.2.1) hAA), ho.moved hW.alike, wt_SN_fx.2.2.1 (wt_Ao (wt_xw X) o (wt_xs X).heap.size) _ _ (wt_xs X).heap hW hSN⟩⟩
  have hfix : CallFix (wt_xp X) (wt_xm X) (wt_xc X) cc nL (wt_xs X) (wt_xa X) wt_GT own := ⟨hx, hb, hml, hown, hts⟩
  have hsz : ls.size = nL := by rw [hl.1, hn]
  have hroo : (wt_rmX dd mc).frames + 1 ≤ (wt_xR X).frames ∧ 8 + (n + 11) + (wt_rmX dd mc).locals ≤ (wt_xR X).locals := ⟨by show dd + 1 ≤ _; omega, by show 8 + (n + 11) + 64 * dd ≤ _; omega⟩
  have hgd : GoodIn wt_GT (va_wsS own idx y (wt_wsW y b n hh)) := fun z hz => by
    have hm : z ∈ wt_GT := by
      rcases List.mem_append.mp hz with e | e
      · simp only [List.mem_cons, List.not_mem_nil, or_false] at e
        rcases e with rfl | rfl | rfl
        · exact hml0
        · exact hstt
        · exact hini
      · rcases List.mem_cons.mp e with e | e
        · rw [e]; exact hcm
        · exact e
    exact ⟨hm, good_of_word (List.mem_filter.mp hm).2⟩
  have hrun := vx_runSX hfix (hc H.size) (vx_cwSW k hts hgd rfl rfl rfl hyd hroo) hps (g := F0 (wt_xm X) pc ls st0) (rest := st) (l := wt_xl X) (e := wt_xe X) (below := wt_xb X) (meth := wt_xM X) (locs := locs) (cells := ce) (slots := sl) rfl hlen hsz hst.symm (lv_room hro) hd ⟨by omega, by omega⟩
  intro T hT Y
  rcases hrun T hT Y with ⟨v, st₀, t, T', L, h0, Y', hL, e1, e2, ⟨⟨r, hv, hwd, ho2⟩, hz, hk⟩, stp⟩ | ⟨q, st₀, t, T', L, E, ce9, h0, Y', hL, e1, e2, hF, -⟩
  · have hv2 : v = some (.int r) := Outcome.returned.inj hv
    subst hv2
    rw [h0] at hz hk
    have hal : (wt_xs X).vm.Alike t.vm := by rw [← e2]; exact Y'.warmed.alike
    obtain ⟨t2, a1, b1⟩ := kk r T'.heap (locs ++ L) ls (ce + mc) (sl + 16 * mc) (by omega) (by omega) (by rw [e1]; exact hwd) (by rw [e1]; exact ho2.moved hal.symm) ⟨Nat.le_trans hS.1 (by rw [e1]; exact hz), fun q g1 g2 => by
        rw [e1, hk q (Nat.lt_of_lt_of_le g1 hS.1) (fun z => g2 (hAA q z))]
        exact hS.2.1 q g1 g2, fun q hq => by
        rcases List.mem_append.mp hq with g | g
        · exact hS.2.2 q g
        · exact hAA _ (hL q g)⟩ hl T' rfl Y'
    exact ⟨t2, stp t2 a1, b1⟩
  · exact hF.elim
end WO2
