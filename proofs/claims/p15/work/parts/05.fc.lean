/-! contracts of methods that make nothing and throw nothing, calls, returns -/
abbrev wt_SP : Type := (Nat → Prop) → State → Heap → Prop
def wt_PcS (w : wt_E) (S : wt_SP) (av : List Value) (σ : wt_St) (sz : Nat) : Array Value → State → Prop := va_Pc av (fun U => U.heap.size = sz ∧ wt_Wd w σ U.heap ∧ va_K (wt_wD w) wt_cl (wt_tys w) U ∧ wt_NW U ∧ wt_FX (wt_A w sz) U U.heap ∧ S (wt_A w sz) U U.heap)
def wt_bo (rt : Option FieldType) (r : Option Int32) : Prop := rt = some .boolean → ∀ x, r = some x → x = 0 ∨ x = 1
def wt_Qc (w : wt_E) (rt : Option FieldType) (r : Option Int32) (σ' : wt_St) (sz : Nat) : Array Value → State → Outcome → State → Prop := fun _ st oc t => (oc = .returned (r.map .int) ∧ wt_bo rt r ∧ wt_Wd w σ' t.heap) ∧ va_F (wt_A w sz) st t
abbrev wt_ws (y : MethodName) (b : ByteArray) (n : Nat) (rt : Option FieldType) : List Cond := .code y b n rt :: wt_GT
abbrev wt_rm (d : Nat) : Room := { frames := d, cells := 0, slots := 0, locals := 64 * d }
def wt_CtrS (S : wt_SP) (l : Launch) (w : wt_E) (y : MethodName) (b : ByteArray) (n : Nat) (rt : Option FieldType) (d : Nat) (av : List Value) (σ : wt_St) (r : Option Int32) (σ' : wt_St) : Prop := ∀ sz : Nat, Met l y (wt_ws y b n rt) (wt_rm d) (wt_PcS w S av σ sz) (wt_Qc w rt r σ' sz) 0 0 (wt_A w sz)
def wt_S0 : wt_SP := fun _ _ _ => True
def wt_Ctr (l : Launch) (w : wt_E) (y : MethodName) (b : ByteArray) (n : Nat) (rt : Option FieldType) (d : Nat) (av : List Value) (σ : wt_St) (r : Option Int32) (σ' : wt_St) : Prop := wt_CtrS wt_S0 l w y b n rt d av σ r σ'
/-- what the end of a body owes -/
def wt_Rt (X : wt_X) (rt : Option FieldType) (r : Option Int32) (σ' : wt_St) : Prop := (wt_xM X).sig.returnType = rt ∧ wt_xQ X = MQ (wt_xb X) (wt_Qc (wt_xw X) rt r σ' (wt_xs X).heap.size) (wt_xa X) (wt_xs X) 0 0 (wt_A (wt_xw X) (wt_xs X).heap.size)
theorem wt_NW.same {u U : State} (h : u.vm = U.vm) (hN : wt_NW u) : wt_NW U := by
  intro w hw
  have h1 := (List.mem_filter.mp hw).2
  have h2 := hN w hw
  cases w <;> first | exact va_Nw.same rfl h h2 | cases h1
theorem wt_blind (w : wt_E) {S : wt_SP} (hS : wt_Fx S) (av : List Value) (σ : wt_St) (sz : Nat) : FrameBlind (wt_PcS w S av σ sz) := fun a U g mk q => by
  obtain ⟨q0, q1, qP, qK, qN, qF, qS⟩ := q
  exact ⟨q0, q1, qP, va_K.moved (u := U) (U := U.calling g mk a) (Vm.Alike.refl U.vm) qK, wt_NW.same (u := U) (U := U.calling g mk a) rfl qN, wt_FX_fx.2.2.2 _ U (U.calling g mk a) _ rfl qF, hS.2.2.2 _ U (U.calling g mk a) _ rfl qS⟩
theorem wt_args {vs : List Value} (hc : vs.all (fun v => v.category == 1) = true) : ∀ (i j : Nat) (v : Value), vs[j]? = some v → (i + j, v) ∈ lv_args i vs := by
  induction vs with
  | nil => intro i j v h; cases h
  | cons a vs ih =>
    intro i j v h
    simp only [List.all_cons, Bool.and_eq_true, beq_iff_eq] at hc
    have ha : ¬ a.category = 2 := by omega
    unfold lv_args
    rw [if_neg ha]
    cases j with
    | zero =>
      cases h
      exact List.mem_cons_self
    | succ j =>
      have := ih hc.2 (i + 1) j v h
      rw [show i + 1 + j = i + (j + 1) by omega] at this
      exact List.mem_cons_of_mem _ this
theorem wt_ctrS (S : wt_SP) {l : Launch} {w : wt_E} {y : MethodName} {b : ByteArray} {n : Nat} {rt : Option FieldType} {d : Nat} {av : List Value} {σ : wt_St} {r : Option Int32} {σ' : wt_St} (hy : plainName y.cls = true) (hc : av.all (fun v => v.category == 1) = true) (hle : (lg_sl av).length ≤ n) (lv : List (Option Value)) (hlv : lv = av.map some ++ List.replicate (n - av.length) none)
    (body : ∀ X : wt_X, wt_xl X = l → wt_xw X = w → wt_Ok X b n y.cls d 0 → wt_Rt X rt r σ' → S (wt_A (wt_xw X) (wt_xs X).heap.size) (wt_xs X) (wt_xs X).heap → wt_V X 0 σ 0 lv []) : wt_CtrS S l w y b n rt d av σ r σ' := by
  intro sz
  refine Met.ofW (cc := b) (maxL := n) (ret := rt) hy rfl ?_
  intro p e s m args below meth c s₁ B hml hv
  obtain ⟨rfl, hsz, hw, hK, hN, hF, hS⟩ := hv
  have hts := atoms_spec (ws := wt_ws y b n rt) B.pre
  have hown : s.vm.findClass y.cls = some m.cls := findClass_of_methodNamed B.named
  subst hsz
  have hl := lv_entry av (n := n) hle
  rw [lg_entry_eq]
  generalize (lg_sl av ++ List.replicate (n - (lg_sl av).length) Slot.unset).toArray = ls at hl ⊢
  have hlo : wt_lo ls n lv := by
    refine ⟨hl.1, hl.2.1, fun j v hj => ?_⟩
    rw [hlv] at hj
    by_cases hj2 : j < av.length
    · rw [List.getElem?_append_left (by simpa using hj2), List.getElem?_map] at hj
      have hv2 : av[j]? = some v := by
        cases hv3 : av[j]? with
        | none => rw [hv3] at hj; cases hj
        | some z => rw [hv3] at hj; cases hj; rfl
      refine ⟨?_, ?_⟩
      · have := List.all_eq_true.mp hc v (List.mem_of_getElem? hv2)
        simpa using this
      · have := hl.2.2 _ (wt_args hc 0 j v hv2)
        simpa using this
    · rw [List.getElem?_append_right (by simpa using hj2)] at hj
      have := List.mem_of_getElem? hj
      rw [List.mem_replicate] at this
      cases this.2
  exact body ((p, l, e, (headSpec (wt_ws y b n rt) (wt_rm d)).room, s, m, av.toArray, below, meth, c), w, n, _) rfl rfl ⟨B.exec, B.bytes, hml, rfl, hown, fun z hz => hts z (List.mem_cons_of_mem _ hz), hK, hN, Nat.le_refl _, Nat.le_refl _, Nat.le_refl _, Nat.le_refl _, B.notSynchronized, hF⟩ ⟨B.returns, rfl⟩ hS s.heap [] ls 0 0 (Nat.le_refl _) (Nat.le_refl _) hw va_S.rf hlo
theorem wt_ctr {l : Launch} {w : wt_E} {y : MethodName} {b : ByteArray} {n : Nat} {rt : Option FieldType} {d : Nat} {av : List Value} {σ : wt_St} {r : Option Int32} {σ' : wt_St} (hy : plainName y.cls = true) (hc : av.all (fun v => v.category == 1) = true) (hle : (lg_sl av).length ≤ n) (lv : List (Option Value)) (hlv : lv = av.map some ++ List.replicate (n - av.length) none)
    (body : ∀ X : wt_X, wt_xl X = l → wt_xw X = w → wt_Ok X b n y.cls d 0 → wt_Rt X rt r σ' → wt_V X 0 σ 0 lv []) : wt_Ctr l w y b n rt d av σ r σ' := wt_ctrS wt_S0 hy hc hle lv hlv (fun X h1 h2 h3 h4 _ => body X h1 h2 h3 h4)
section WT3
variable {X : wt_X} {cc : ByteArray} {nL : Nat} {own : String} {d Km K : Nat} {σ : wt_St} {pc : Nat} {lv : List (Option Value)} {st : List Value}
theorem wt_iret (h : wt_Ok X cc nL own d Km) {x : Int32} (hR : wt_Rt X (some .int) (some x) σ) (hd : decode cc pc = .ok (.ireturn, 1)) : wt_V X 0 σ pc lv [.int x] := by
  intro H locs ls ce sl h1 h2 hw hS hl
  have e1 : ce = 0 := by omega
  have e2 : sl = 0 := by omega
  subst e1; subst e2
  obtain ⟨hr, hQ⟩ := hR
  show W _ _ _ _ _ _ _ _ _ _ _ _ _ _ (wt_xQ X) _
  rw [hQ]
  exact W.iret h.1 h.2.1 hr (fun t ht hW => ⟨⟨rfl, (fun z => by cases z), by rw [ht]; exact hw⟩, hS.F ht⟩) hS.2.2 hd h.2.2.2.2.2.2.2.2.2.2.2.2.1
theorem wt_nz {x : Int32} (hx : x = 0 ∨ x = 1) : narrow .boolean (.int x) = .int x := by
  rcases hx with rfl | rfl <;> rfl
theorem wt_zret (h : wt_Ok X cc nL own d Km) {x : Int32} (hx : x = 0 ∨ x = 1) (hR : wt_Rt X (some .boolean) (some x) σ) (hd : decode cc pc = .ok (.ireturn, 1)) : wt_V X 0 σ pc lv [.int x] := by
  intro H locs ls ce sl h1 h2 hw hS hl
  have e1 : ce = 0 := by omega
  have e2 : sl = 0 := by omega
  subst e1; subst e2
  obtain ⟨hr, hQ⟩ := hR
  show W _ _ _ _ _ _ _ _ _ _ _ _ _ _ (wt_xQ X) _
  rw [hQ]
  exact W.zret h.1 h.2.1 hr (wt_nz hx) (fun t ht hW => ⟨⟨rfl, (fun _ z hz => by cases hz; exact hx), by rw [ht]; exact hw⟩, hS.F ht⟩) hS.2.2 hd h.2.2.2.2.2.2.2.2.2.2.2.2.1
theorem wt_vret (h : wt_Ok X cc nL own d Km) (hR : wt_Rt X none none σ) (hd : decode cc pc = .ok (.return_, 1)) : wt_V X 0 σ pc lv [] := by
  intro H locs ls ce sl h1 h2 hw hS hl
  have e1 : ce = 0 := by omega
  have e2 : sl = 0 := by omega
  subst e1; subst e2
  obtain ⟨hr, hQ⟩ := hR
  show W _ _ _ _ _ _ _ _ _ _ _ _ _ _ (wt_xQ X) _
  rw [hQ]
  exact W.vret h.1 h.2.1 hr (fun t ht hW => ⟨⟨rfl, (fun z => by cases z), by rw [ht]; exact hw⟩, hS.F ht⟩) hS.2.2 hd h.2.2.2.2.2.2.2.2.2.2.2.2.1
def wt_MV (own : String) (idx : Nat) (y : MethodName) : Prop := (Cond.methodLink own idx y ∈ wt_GT ∨ ∃ host, Cond.methodLinkNest own idx y host ∈ wt_NT) ∧ Cond.instanceMethod y ∈ wt_GT ∧ Cond.selects y.cls y y ∈ wt_GT ∧ Cond.initialized y.cls ∈ wt_GT
def wt_MS (own : String) (idx : Nat) (y : MethodName) : Prop := (Cond.methodLink own idx y ∈ wt_GT ∨ ∃ host, Cond.methodLinkNest own idx y host ∈ wt_NT) ∧ Cond.static y ∈ wt_GT ∧ Cond.initialized y.cls ∈ wt_GT
def wt_Ya (y : MethodName) (b : ByteArray) (n : Nat) (rt : Option FieldType) (k : Nat) : Prop := (y.cls ≠ "java/lang/invoke/MethodHandle" ∧ y.cls ≠ "java/lang/invoke/VarHandle" ∧ (parseMethodDescriptor y.desc).map (fun d => d.parameters.length) = some k) ∧ Cond.code y b n rt ∈ wt_GT ∧ n ≤ 40
theorem wt_after {rt : Option FieldType} {r : Option Int32} {σ' : wt_St} {H : Heap} {locs : List Loc} {ls : Array Slot} {ce sl : Nat} {st0 : List Value} {a : Array Value} (h1 : ce ≤ K) (h2 : sl ≤ 16 * K)
    (hr : va_Run (wt_xp X) (wt_xl X) (wt_xe X) (wt_xR X) (wt_xs X) (wt_xm X) (wt_xa X) (wt_xb X) (wt_xM X) (wt_xc X) H locs ce sl 0 0 (F0 (wt_xm X) pc ls st0) st (wt_Qc (wt_xw X) rt r σ' H.size a) (wt_A (wt_xw X) H.size))
    (hS : va_S (wt_A (wt_xw X) (wt_xs X).heap.size) (wt_xs X).heap H locs) (hl : wt_lo ls (wt_xn X) lv) (kk : wt_bo rt r → wt_V X K σ' (pc + 3) lv ((r.map .int).toList ++ st)) : wt_W X H locs ce sl (F0 (wt_xm X) pc ls st0) := by
  intro T hT Y
  obtain ⟨v, st₀, t, T', L, h0, Y', hL, e1, e2, ⟨⟨hv, hb, hwd⟩, hz, hk⟩, stp⟩ := hr T hT Y
  have hv2 : v = r.map .int := Outcome.returned.inj hv
  subst hv2
  rw [h0] at hz hk
  have hAA : ∀ q : Nat, wt_A (wt_xw X) H.size q → wt_A (wt_xw X) (wt_xs X).heap.size q := fun q hq => hq.elim Or.inl (fun z => Or.inr (Nat.le_trans hS.1 z))
  obtain ⟨t2, a1, b1⟩ := kk hb T'.heap (locs ++ L) ls (ce + 0) (sl + 0) h1 h2 (by rw [e1]; exact hwd)
    ⟨Nat.le_trans hS.1 (by rw [e1]; exact hz), fun q g1 g2 => by
      rw [e1, hk q (Nat.lt_of_lt_of_le g1 hS.1) (fun z => g2 (hAA q z))]
      exact hS.2.1 q g1 g2, fun q hq => by
      rcases List.mem_append.mp hq with g | g
      · exact hS.2.2 q g
      · exact hAA _ (hL q g)⟩ hl T' rfl Y'
  exact ⟨t2, stp t2 a1, b1⟩
theorem wt_pre {s U : State} {w : wt_E} {S : wt_SP} (hSx : wt_Fx S) {σ : wt_St} {H : Heap} {locs : List Loc} {av : List Value} (hK : va_K (wt_wD w) wt_cl (wt_tys w) s) (hN : wt_NW s) (hF : wt_FX (wt_A w s.heap.size) s s.heap) (hS0 : S (wt_A w s.heap.size) s s.heap) (hS : va_S (wt_A w s.heap.size) s.heap H locs) (hw : wt_Wd w σ H) (hU : U.heap = H) (hW : s.WarmedH U.vm) : wt_PcS w S av σ H.size av.toArray U := by
  have hAA : ∀ q : Nat, wt_A w H.size q → wt_A w s.heap.size q := fun q hq => hq.elim Or.inl (fun z => Or.inr (Nat.le_trans hS.1 z))
  subst hU
  exact ⟨rfl, rfl, hw, va_K.moved hW.alike hK, hN.warm hW, wt_FX_fx.2.2.1 _ _ _ _ hW (wt_FX_fx.2.1 _ _ _ _ (wt_FX_fx.1 _ _ _ _ hF hS.2.1) hAA), hSx.2.2.1 _ _ _ _ hW (hSx.2.1 _ _ _ _ (hSx.1 _ _ _ _ hS0 hS.2.1) hAA)⟩
theorem wt_goodG (h : wt_Ok X cc nL own d Km) {y : MethodName} {b : ByteArray} {n : Nat} {rt : Option FieldType} (hc : Cond.code y b n rt ∈ wt_GT) : GoodIn wt_GT (wt_ws y b n rt) := fun w hw => by
  have hm : w ∈ wt_GT := by
    rcases List.mem_cons.mp hw with e | e
    · rw [e]; exact hc
    · exact e
  exact ⟨hm, good_of_word (List.mem_filter.mp hm).2⟩
theorem wt_callVS (h : wt_Ok X cc nL own d Km) {S : wt_SP} (hSx : wt_Fx S) (hS0 : S (wt_A (wt_xw X) (wt_xs X).heap.size) (wt_xs X) (wt_xs X).heap) {idx : Nat} {y : MethodName} {b : ByteArray} {n k dd ci nn N i : Nat} {rs : List Nat} {T : u_T} {rt : Option FieldType} {As st0 : List Value} {r : Option Int32} {σ' : wt_St} (mv : wt_MV own idx y) (hy : wt_Ya y b n rt k) (hc : wt_CtrS S (wt_xl X) (wt_xw X) y b n rt dd (.ref (wt_ad (wt_xw X) i) :: As) σ r σ') (hd1 : dd + 1 ≤ d) (hi : wt_dom (wt_xw X) i) (hL : wt_LAY[i]? = some (ci + 3, nn, rs)) (hcl : wt_cl[ci]? = some (y.cls, T, N)) (hlen : As.length = k) (hst : As.reverse ++ .ref (wt_ad (wt_xw X) i) :: st = st0) (hro : (st.map fun v => v.category).sum ≤ 8) (hK : K ≤ Km) (hd : decode cc pc = .ok (.invokevirtual idx, 3))
    (kk : wt_bo rt r → wt_V X K σ' (pc + 3) lv ((r.map .int).toList ++ st)) : wt_V X K σ pc lv st0 := by
  intro H locs ls ce sl h1 h2 hw hS hl
  obtain ⟨hlink, hin, hsel, hini⟩ := mv
  obtain ⟨hx, hb, hml, hn, hown, hts, hKK, hN, r1, r2, r3, r4, hlk, hFX⟩ := id h
  have hP := hw.one hi
  unfold wt_cell at hP
  rw [wt_ce_ob hL] at hP
  have hrecv := va_recv hKK hP hcl (q0 := 0) rfl
  have hpv : PreV (wt_xs X) H y.cls (wt_ad (wt_xw X) i) (wt_PcS (wt_xw X) S (.ref (wt_ad (wt_xw X) i) :: As) σ H.size) As := ⟨wt_blind _ hSx _ _ _, hrecv, fun U hU hW => wt_pre hSx hKK hN hFX hS0 hS hw hU hW⟩
  have hfix : CallFix (wt_xp X) (wt_xm X) (wt_xc X) cc nL (wt_xs X) (wt_xa X) wt_GT own := ⟨hx, hb, hml, hown, hts⟩
  have hsz : ls.size = nL := by rw [hl.1, hn]
  have hroo : (wt_rm dd).frames + 1 ≤ (wt_xR X).frames ∧ 8 + (n + 11) + (wt_rm dd).locals ≤ (wt_xR X).locals := by
    have := hy.2.2
    exact ⟨by show dd + 1 ≤ _; omega, by show 8 + (n + 11) + 64 * dd ≤ _; omega⟩
  rcases hlink with hlink | ⟨host, hlink⟩
  · refine wt_after h1 h2 (va_runV hfix (hc H.size) ⟨callB_of k hts (wt_goodG h hy.2.1) rfl rfl rfl (hts _ hini) (hts _ hlink) hy.1 hroo, hts _ hin, hts _ hsel⟩ hpv rfl hlen hsz hst.symm (lv_room hro) hd ⟨by omega, by omega⟩) hS hl kk
  · refine wt_after h1 h2 (va_runVN hfix (hc H.size) ⟨va_cnB (host := host) k hts (wt_goodG h hy.2.1) rfl rfl rfl (hN _ hlink) (hts _ hini) hy.1 hroo, hts _ hin, hts _ hsel⟩ hpv rfl hlen hsz hst.symm (lv_room hro) hd ⟨by omega, by omega⟩) hS hl kk
theorem wt_callSS (h : wt_Ok X cc nL own d Km) {S : wt_SP} (hSx : wt_Fx S) (hS0 : S (wt_A (wt_xw X) (wt_xs X).heap.size) (wt_xs X) (wt_xs X).heap) {idx : Nat} {y : MethodName} {b : ByteArray} {n k dd : Nat} {rt : Option FieldType} {As st0 : List Value} {r : Option Int32} {σ' : wt_St} (mv : wt_MS own idx y) (hy : wt_Ya y b n rt k) (hc : wt_CtrS S (wt_xl X) (wt_xw X) y b n rt dd As σ r σ') (hd1 : dd + 1 ≤ d) (hlen : As.length = k) (hst : As.reverse ++ st = st0) (hro : (st.map fun v => v.category).sum ≤ 8) (hK : K ≤ Km) (hd : decode cc pc = .ok (.invokestatic idx, 3))
    (kk : wt_bo rt r → wt_V X K σ' (pc + 3) lv ((r.map .int).toList ++ st)) : wt_V X K σ pc lv st0 := by
  intro H locs ls ce sl h1 h2 hw hS hl
  obtain ⟨hlink, hstt, hini⟩ := mv
  obtain ⟨hx, hb, hml, hn, hown, hts, hKK, hN, r1, r2, r3, r4, hlk, hFX⟩ := id h
  have hps : PreS (wt_xs X) H (wt_PcS (wt_xw X) S As σ H.size) As := ⟨wt_blind _ hSx _ _ _, fun U hU hW => wt_pre hSx hKK hN hFX hS0 hS hw hU hW⟩
  have hfix : CallFix (wt_xp X) (wt_xm X) (wt_xc X) cc nL (wt_xs X) (wt_xa X) wt_GT own := ⟨hx, hb, hml, hown, hts⟩
  have hsz : ls.size = nL := by rw [hl.1, hn]
  have hroo : (wt_rm dd).frames + 1 ≤ (wt_xR X).frames ∧ 8 + (n + 11) + (wt_rm dd).locals ≤ (wt_xR X).locals := by
    have := hy.2.2
    exact ⟨by show dd + 1 ≤ _; omega, by show 8 + (n + 11) + 64 * dd ≤ _; omega⟩
  rcases hlink with hlink | ⟨host, hlink⟩
  · refine wt_after h1 h2 (va_runS hfix (hc H.size) ⟨callB_of k hts (wt_goodG h hy.2.1) rfl rfl rfl (hts _ hini) (hts _ hlink) hy.1 hroo, hts _ hstt⟩ hps rfl hlen hsz hst.symm (lv_room hro) hd ⟨by omega, by omega⟩) hS hl kk
  · refine wt_after h1 h2 (va_runSN hfix (hc H.size) ⟨va_cnB (host := host) k hts (wt_goodG h hy.2.1) rfl rfl rfl (hN _ hlink) (hts _ hini) hy.1 hroo, hts _ hstt, trivial⟩ hps rfl hlen hsz hst.symm (lv_room hro) hd ⟨by omega, by omega⟩) hS hl kk
theorem wt_callV (h : wt_Ok X cc nL own d Km) {idx : Nat} {y : MethodName} {b : ByteArray} {n k dd ci nn N i : Nat} {rs : List Nat} {T : u_T} {rt : Option FieldType} {As st0 : List Value} {r : Option Int32} {σ' : wt_St} (mv : wt_MV own idx y) (hy : wt_Ya y b n rt k) (hc : wt_Ctr (wt_xl X) (wt_xw X) y b n rt dd (.ref (wt_ad (wt_xw X) i) :: As) σ r σ') (hd1 : dd + 1 ≤ d) (hi : wt_dom (wt_xw X) i) (hL : wt_LAY[i]? = some (ci + 3, nn, rs)) (hcl : wt_cl[ci]? = some (y.cls, T, N)) (hlen : As.length = k) (hst : As.reverse ++ .ref (wt_ad (wt_xw X) i) :: st = st0) (hro : (st.map fun v => v.category).sum ≤ 8) (hK : K ≤ Km) (hd : decode cc pc = .ok (.invokevirtual idx, 3))
    (kk : wt_bo rt r → wt_V X K σ' (pc + 3) lv ((r.map .int).toList ++ st)) : wt_V X K σ pc lv st0 := wt_callVS h wt_True_fx trivial mv hy hc hd1 hi hL hcl hlen hst hro hK hd kk
theorem wt_callS (h : wt_Ok X cc nL own d Km) {idx : Nat} {y : MethodName} {b : ByteArray} {n k dd : Nat} {rt : Option FieldType} {As st0 : List Value} {r : Option Int32} {σ' : wt_St} (mv : wt_MS own idx y) (hy : wt_Ya y b n rt k) (hc : wt_Ctr (wt_xl X) (wt_xw X) y b n rt dd As σ r σ') (hd1 : dd + 1 ≤ d) (hlen : As.length = k) (hst : As.reverse ++ st = st0) (hro : (st.map fun v => v.category).sum ≤ 8) (hK : K ≤ Km) (hd : decode cc pc = .ok (.invokestatic idx, 3))
    (kk : wt_bo rt r → wt_V X K σ' (pc + 3) lv ((r.map .int).toList ++ st)) : wt_V X K σ pc lv st0 := wt_callSS h wt_True_fx trivial mv hy hc hd1 hlen hst hro hK hd kk
end WT3
/-! loops of the pure programs -/
noncomputable def wt_it {α ρ : Type} (body : (α → Option ρ) → α → Option ρ) : Nat → α → Option ρ
  | 0, _ => none
  | k + 1, a => body (wt_it body k) a
theorem wt_it_ind {α ρ : Type} {body : (α → Option ρ) → α → Option ρ} {res : ρ} (P : α → Prop) (h : ∀ K : α → Option ρ, (∀ a, K a = some res → P a) → ∀ a, body K a = some res → P a) : ∀ (k : Nat) (a : α), wt_it body k a = some res → P a := by
  intro k
  induction k with
  | zero => intro a h1; cases h1
  | succ k ih => intro a h1; exact h _ ih a h1
theorem wt_bi {α β : Type} {x : Option α} {f : α → Option β} {r : β} (h : x.bind f = some r) : ∃ a, x = some a ∧ f a = some r := Option.bind_eq_some_iff.mp h
