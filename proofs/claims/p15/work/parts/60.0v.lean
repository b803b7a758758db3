/-! the law's own frames, and what the long holds -/
def wt_outv (o : Nat) (v : Int32) (U : State) (H : Heap) : Prop := ∃ cell : Cell, H[o]? = some cell ∧ U.isArrayOf cell .long ∧ cell.vm ≠ .unknown ∧ cell.slots.size = 1 ∧ cell.slots[0]? = some (.long v.toInt64)
theorem wt_outv.moved {o : Nat} {v : Int32} {u U : State} {H : Heap} (hvm : u.vm.Alike U.vm) (h : wt_outv o v u H) : wt_outv o v U H := by
  obtain ⟨cell, h1, h2, h3⟩ := h
  exact ⟨cell, h1, State.isArrayOf_alike hvm h2, h3⟩
theorem wt_outv.kept {o : Nat} {v : Int32} {U : State} {H H1 : Heap} (h : wt_outv o v U H) (hq : H1[o]? = H[o]?) : wt_outv o v U H1 := by
  obtain ⟨cell, h1, h2⟩ := h
  exact ⟨cell, hq.trans h1, h2⟩
theorem wt_outv.out {o : Nat} {v : Int32} {U : State} {H : Heap} (h : wt_outv o v U H) : wt_out o U H := by
  obtain ⟨cell, h1, h2, h3, h4, -⟩ := h
  exact ⟨cell, h1, h2, h3, h4⟩
theorem wt_outv.lt {o : Nat} {v : Int32} {U : State} {H : Heap} (h : wt_outv o v U H) : o < H.size := h.out.lt
def wt_Ov (X : wt_X) (o : Nat) (v : Int32) (K : Nat) (σ : wt_St) (pc : Nat) (lv : List (Option Value)) (st : List Value) : Prop :=
  ∀ (H : Heap) (locs : List Loc) (ls : Array Slot) (ce sl : Nat), ce ≤ K → sl ≤ 16 * K → wt_Wd (wt_xw X) σ H → wt_outv o v (wt_xs X) H → va_S (wt_Ao (wt_xw X) o (wt_xs X).heap.size) (wt_xs X).heap H locs → wt_lo ls (wt_xn X) lv → wt_W X H locs ce sl (F0 (wt_xm X) pc ls st)
section WOV
variable {X : wt_X} {o : Nat} {v : Int32} {cc : ByteArray} {nL : Nat} {own : String} {d Km K : Nat} {σ : wt_St} {pc : Nat} {lv : List (Option Value)} {st : List Value}
/-- what it holds may be forgotten -/
theorem wt_ov_o (k : wt_O X o K σ pc lv st) : wt_Ov X o v K σ pc lv st := fun H locs ls ce sl h1 h2 hw ho hS hl => k H locs ls ce sl h1 h2 hw ho.out hS hl
theorem wt_ov_kup {K' : Nat} (h : K ≤ K') (k : wt_Ov X o v K' σ pc lv st) : wt_Ov X o v K σ pc lv st :=
  fun H locs ls ce sl h1 h2 hw ho hS hl => k H locs ls ce sl (by omega) (by omega) hw ho hS hl
theorem wt_ov_sub {lv' : List (Option Value)} (hs : ∀ (j : Nat) (v : Value), lv'[j]? = some (some v) → lv[j]? = some (some v)) (k : wt_Ov X o v K σ pc lv' st) : wt_Ov X o v K σ pc lv st :=
  fun H locs ls ce sl h1 h2 hw ho hS hl => k H locs ls ce sl h1 h2 hw ho hS (hl.sub hs)
theorem wt_ov_wk (bs : List Bool) {lv' : List (Option Value)} (hm : wt_mask bs lv = lv') (k : wt_Ov X o v K σ pc lv' st) : wt_Ov X o v K σ pc lv st := wt_ov_sub (fun j v hj => wt_mask_sub bs lv j v (by rw [hm]; exact hj)) k
theorem wt_ov_iconst (h : wt_OkO X o cc nL own d Km) {n : Int} (v1 : Int32) (hd : decode cc pc = .ok (.iconst n, 1)) (hv : Int32.ofInt n = v1) (k : wt_Ov X o v K σ (pc + 1) lv (.int v1 :: st)) : wt_Ov X o v K σ pc lv st :=
  fun H locs ls ce sl h1 h2 hw ho hS hl => lv_iconst h.1.1 h.1.2.1 hd hv (k H locs ls ce sl h1 h2 hw ho hS hl)
theorem wt_ov_iload (h : wt_OkO X o cc nL own d Km) {i : Nat} {x : Int32} (hd : decode cc pc = .ok (.iload i, 2)) (hv : lv[i]? = some (some (.int x))) (k : wt_Ov X o v K σ (pc + 2) lv (.int x :: st)) : wt_Ov X o v K σ pc lv st :=
  fun H locs ls ce sl h1 h2 hw ho hS hl => lv_iload h.1.1 h.1.2.1 hd (hl.2.2 _ _ hv).2 (k H locs ls ce sl h1 h2 hw ho hS hl)
theorem wt_ov_iload_n (h : wt_OkO X o cc nL own d Km) {i : Fin 4} {x : Int32} (hd : decode cc pc = .ok (.iload_n i, 1)) (hv : lv[(i : Nat)]? = some (some (.int x))) (k : wt_Ov X o v K σ (pc + 1) lv (.int x :: st)) : wt_Ov X o v K σ pc lv st :=
  fun H locs ls ce sl h1 h2 hw ho hS hl => lv_iload_n h.1.1 h.1.2.1 hd rfl (hl.2.2 _ _ hv).2 (k H locs ls ce sl h1 h2 hw ho hS hl)
theorem wt_ov_aload_n (h : wt_OkO X o cc nL own d Km) {i : Fin 4} {x : Nat} (hd : decode cc pc = .ok (.aload_n i, 1)) (hv : lv[(i : Nat)]? = some (some (.ref x))) (k : wt_Ov X o v K σ (pc + 1) lv (.ref x :: st)) : wt_Ov X o v K σ pc lv st :=
  fun H locs ls ce sl h1 h2 hw ho hS hl => lv_aload_n h.1.1 h.1.2.1 hd rfl (hl.2.2 _ _ hv).2 (k H locs ls ce sl h1 h2 hw ho hS hl)
theorem wt_ov_stn {v0 : Value} (h : wt_OkO X o cc nL own d Km) {i : Nat} {n : Nat} {lv' : List (Option Value)} (hin : i < nL) (hc : v0.category = 1) (hl' : lv.set i (some v0) = lv') (k : wt_Ov X o v K σ (pc + n) lv' st)
    (step : ∀ (H : Heap) (locs : List Loc) (ls ls' : Array Slot) (ce sl : Nat), storeLocals ls i v0 = some ls' → wt_W X H locs ce sl (F0 (wt_xm X) (pc + n) ls' st) → wt_W X H locs ce sl (F0 (wt_xm X) pc ls (v0 :: st))) : wt_Ov X o v K σ pc lv (v0 :: st) := by
  intro H locs ls ce sl h1 h2 hw ho hS hl
  obtain ⟨ls', e, hl2⟩ := hl.store (i := i) (v := v0) (by rw [h.1.2.2.2.1]; exact hin) hc
  exact step H locs ls ls' ce sl e (k H locs ls' ce sl h1 h2 hw ho hS (hl' ▸ hl2))
theorem wt_ov_istore (h : wt_OkO X o cc nL own d Km) {i : Nat} {x : Int32} (lv' : List (Option Value)) (hd : decode cc pc = .ok (.istore i, 2)) (hin : i < nL) (hl' : lv.set i (some (.int x)) = lv') (k : wt_Ov X o v K σ (pc + 2) lv' st) : wt_Ov X o v K σ pc lv (.int x :: st) := by
  refine wt_ov_stn h hin rfl hl' k fun H locs ls ls' ce sl e kk => ?_
  obtain ⟨hexec, hb, -⟩ := h.1
  intro T hT Y
  obtain ⟨t, a, b⟩ := kk T hT Y
  refine ⟨t, ?_, b⟩
  jvm_step Y.here [Y.here.top, ↓top_set Y.here.top, hexec, hb, hd, e]
  exact a
theorem wt_ov_iadd (h : wt_OkO X o cc nL own d Km) {x y : Int32} (hd : decode cc pc = .ok (.iadd, 1)) (k : wt_Ov X o v K σ (pc + 1) lv (.int (x + y) :: st)) : wt_Ov X o v K σ pc lv (.int y :: .int x :: st) :=
  fun H locs ls ce sl h1 h2 hw ho hS hl => lv_iadd h.1.1 h.1.2.1 hd (k H locs ls ce sl h1 h2 hw ho hS hl)
theorem wt_ov_goto (h : wt_OkO X o cc nL own d Km) {off : Int} (tgt : Nat) (hd : decode cc pc = .ok (.goto off, 3)) (ht : (pc : Int) + off = (tgt : Int)) (k : wt_Ov X o v K σ tgt lv st) : wt_Ov X o v K σ pc lv st :=
  fun H locs ls ce sl h1 h2 hw ho hS hl => lv_goto h.1.1 h.1.2.1 hd ht (k H locs ls ce sl h1 h2 hw ho hS hl)
theorem wt_ov_icmp_eqT (h : wt_OkO X o cc nL own d Km) {x y : Int32} {off : Int} (tgt : Nat) (hd : decode cc pc = .ok (.if_icmp .eq off, 3)) (ht : (pc : Int) + off = (tgt : Int)) (he : x = y) (kt : wt_Ov X o v K σ tgt lv st) : wt_Ov X o v K σ pc lv (.int y :: .int x :: st) :=
  fun H locs ls ce sl h1 h2 hw ho hS hl => lv_icmp_eq h.1.1 h.1.2.1 hd ht (fun c => kt H locs ls ce sl h1 h2 hw ho hS hl) (fun c => absurd he c)
theorem wt_ov_sld (h : wt_OkO X o cc nL own d Km) {b L : Nat} {xs : Nat → Int32} (hX : wt_scr X o b L xs) {i : Int32} (hin : vp_in i L) (hd : decode cc pc = .ok (.iaload, 1)) (k : wt_Ov X o v K σ (pc + 1) lv (.int (xs i.toNatClampNeg) :: st)) : wt_Ov X o v K σ pc lv (.int i :: .ref b :: st) :=
  fun H locs ls ce sl h1 h2 hw ho hS hl => va_sld h.1.1 h.1.2.1 hX.1 hX.2.1 hX.2.2 hS hin hd (k H locs ls ce sl h1 h2 hw ho hS hl)
theorem wt_ov_join {w : wt_E} {sz : Nat} {H0 H H1 : Heap} {locs L : List Loc} {σ : wt_St} {U : State} (hsz : H0.size = sz) (hod : ∀ i, wt_dom w i → wt_ad w i ≠ o) (ho : wt_outv o v U H) (hS : va_S (wt_Ao w o sz) H0 H locs) (hz : H.size ≤ H1.size) (hk : ∀ q : Nat, q < H.size → ¬ wt_A w H.size q → H1[q]? = H[q]?) (hL : ∀ q ∈ L, wt_A w H.size q.base) : va_S (wt_Ao w o sz) H0 H1 (locs ++ L) ∧ wt_outv o v U H1 := by
  have hAA : ∀ q : Nat, wt_A w H.size q → wt_Ao w o sz q := fun q hq => Or.inr (hq.elim Or.inl (fun z => Or.inr (Nat.le_trans (hsz ▸ hS.1) z)))
  refine ⟨⟨Nat.le_trans hS.1 hz, fun q g1 g2 => (hk q (Nat.lt_of_lt_of_le g1 hS.1) (fun z => g2 (hAA q z))).trans (hS.2.1 q g1 g2), fun q hq => ?_⟩, ho.kept (hk o ho.lt ?_)⟩
  · rcases List.mem_append.mp hq with g | g
    · exact hS.2.2 q g
    · exact hAA _ (hL q g)
  · rintro (⟨i, hi, e⟩ | hge)
    · exact hod i hi e.symm
    · exact absurd ho.lt (Nat.not_lt.mpr hge)
theorem wt_ov_callVi (h : wt_OkO X o cc nL own d Km) {idx : Nat} {y : MethodName} {b : ByteArray} {n k dd ci nn N i : Nat} {rs : List Nat} {T : u_T} {rt : Option FieldType} (As : List Value) {st0 : List Value} {r : Int32} {σ' : wt_St} (mv : wt_MV own idx y) (hy : wt_Ya y b n rt k) (hc : wt_Ctr (wt_xl X) (wt_xw X) y b n rt dd (.ref (wt_ad (wt_xw X) i) :: As) σ (some r) σ') (hd1 : dd + 1 ≤ d) (hi : wt_dom (wt_xw X) i) (hL : wt_LAY[i]? = some (ci + 3, nn, rs)) (hcl : wt_cl[ci]? = some (y.cls, T, N)) (hlen : As.length = k) (hst : As.reverse ++ .ref (wt_ad (wt_xw X) i) :: st = st0) (hro : (st.map fun v => v.category).sum ≤ 8) (hK : K ≤ Km) (hd : decode cc pc = .ok (.invokevirtual idx, 3))
    (kk : wt_Ov X o v K σ' (pc + 3) lv (.int r :: st)) : wt_Ov X o v K σ pc lv st0 := by
  intro H locs ls ce sl h1 h2 hw ho hS hl
  obtain ⟨hlink, hin, hsel, hini⟩ := mv
  obtain ⟨⟨hx, hb, hml, hn, hown, hts, hKK, hN, r1, r2, r3, r4, hlk, -⟩, hFX, hod⟩ := id h
  have hP := hw.one hi
  unfold wt_cell at hP
  rw [wt_ce_ob hL] at hP
  have hrecv := va_recv hKK hP hcl (q0 := 0) rfl
  have hpv : PreV (wt_xs X) H y.cls (wt_ad (wt_xw X) i) (wt_PcS (wt_xw X) wt_S0 (.ref (wt_ad (wt_xw X) i) :: As) σ H.size) As := ⟨wt_blind _ wt_True_fx _ _ _, hrecv, fun U hU hW => wt_o_pre hKK hN hFX hS hw hU hW⟩
  have hfix : CallFix (wt_xp X) (wt_xm X) (wt_xc X) cc nL (wt_xs X) (wt_xa X) wt_GT own := ⟨hx, hb, hml, hown, hts⟩
  have hsz : ls.size = nL := by rw [hl.1, hn]
  have hroo : (wt_rm dd).frames + 1 ≤ (wt_xR X).frames ∧ 8 + (n + 11) + (wt_rm dd).locals ≤ (wt_xR X).locals := by
    have := hy.2.2
    exact ⟨by show dd + 1 ≤ _; omega, by show 8 + (n + 11) + 64 * dd ≤ _; omega⟩
  have run : va_Run (wt_xp X) (wt_xl X) (wt_xe X) (wt_xR X) (wt_xs X) (wt_xm X) (wt_xa X) (wt_xb X) (wt_xM X) (wt_xc X) H locs ce sl 0 0 (F0 (wt_xm X) pc ls st0) st (wt_Qc (wt_xw X) rt (some r) σ' H.size (Value.ref (wt_ad (wt_xw X) i) :: As).toArray) (wt_A (wt_xw X) H.size) := by
    rcases hlink with hlink | ⟨host, hlink⟩
    · exact va_runV hfix (hc H.size) ⟨callB_of k hts (wt_goodG h.1 hy.2.1) rfl rfl rfl (hts _ hini) (hts _ hlink) hy.1 hroo, hts _ hin, hts _ hsel⟩ hpv rfl hlen hsz hst.symm (lv_room hro) hd ⟨by omega, by omega⟩
    · exact va_runVN hfix (hc H.size) ⟨va_cnB (host := host) k hts (wt_goodG h.1 hy.2.1) rfl rfl rfl (hN _ hlink) (hts _ hini) hy.1 hroo, hts _ hin, hts _ hsel⟩ hpv rfl hlen hsz hst.symm (lv_room hro) hd ⟨by omega, by omega⟩
  intro T hT Y
  obtain ⟨v, st₀, t, T', L, h0, Y', hL, e1, e2, ⟨⟨hv, -, hwd⟩, hz, hk⟩, stp⟩ := run T hT Y
  have hv2 : v = some (.int r) := Outcome.returned.inj hv
  subst hv2
  rw [h0] at hz hk
  obtain ⟨j1, j2⟩ := wt_ov_join rfl hod ho hS (H1 := T'.heap) (L := L) (σ := σ) (by rw [e1]; exact hz) (fun q g1 g2 => by rw [e1]; exact hk q g1 g2) hL
  obtain ⟨t2, a1, b1⟩ := kk T'.heap (locs ++ L) ls (ce + 0) (sl + 0) h1 h2 (by rw [e1]; exact hwd) j2 j1 hl T' rfl Y'
  exact ⟨t2, stp t2 a1, b1⟩
/-- an int put away as a long, and known there -/
theorem wt_o_putv (h : wt_OkO X o cc nL own d Km) {x : Int32} (hd1 : decode cc pc = .ok (.i2l, 1)) (hd2 : decode cc (pc + 1) = .ok (.lastore, 1)) (k : wt_Ov X o x K σ (pc + 2) lv st) : wt_O X o K σ pc lv (.int x :: .int 0 :: .ref o :: st) := by
  intro H locs ls ce sl h1 h2 hw ho hS hl
  obtain ⟨cell, g1, g2, g3, g4⟩ := ho
  have hlt : o < H.size := (Array.getElem?_eq_some_iff.mp g1).1
  refine lv_i2l h.1.1 h.1.2.1 hd1 rfl ?_
  refine W.last (x := x.toInt64) (j := 0) (a := o) (rest := st) h.1.1 h.1.2.1 g1 g2 g3 (by rw [g4]; decide) rfl rfl hd2 fun H1 e z oq => ?_
  have hA : wt_Ao (wt_xw X) o (wt_xs X).heap.size o := Or.inl rfl
  refine k H1 _ ls ce sl h1 h2 ⟨fun i hi => (hw.1 i hi).kept (oq _ (h.2.2 i hi)), hw.2⟩ ⟨_, e, g2, g3, ?_, ?_⟩ (hS.put z oq hA) hl
  · show (cell.slots.setIfInBounds _ _).size = 1
    rw [Array.size_setIfInBounds]
    exact g4
  · show (cell.slots.setIfInBounds 0 (.long x.toInt64))[0]? = some (.long x.toInt64)
    rw [Array.getElem?_setIfInBounds_self_of_lt (by rw [g4]; decide)]
theorem wt_ov_laload (h : wt_OkO X o cc nL own d Km) (hd : decode cc pc = .ok (.laload, 1)) (k : wt_Ov X o v K σ (pc + 1) lv (.long v.toInt64 :: st)) : wt_Ov X o v K σ pc lv (.int 0 :: .ref o :: st) := by
  intro H locs ls ce sl h1 h2 hw ho hS hl
  have ho' := ho
  obtain ⟨cell, g1, g2, g3, g4, g5⟩ := ho'
  exact W.lald (j := 0) (a := o) (v := .long v.toInt64) (rest := st) h.1.1 h.1.2.1 g1 g2 g3 (by rw [g4]; decide) g5 rfl rfl hd (k H locs ls ce sl h1 h2 hw ho hS hl)
theorem wt_ov_i2l (h : wt_OkO X o cc nL own d Km) {x : Int32} (hd : decode cc pc = .ok (.i2l, 1)) (k : wt_Ov X o v K σ (pc + 1) lv (.long x.toInt64 :: st)) : wt_Ov X o v K σ pc lv (.int x :: st) :=
  fun H locs ls ce sl h1 h2 hw ho hS hl => lv_i2l h.1.1 h.1.2.1 hd rfl (k H locs ls ce sl h1 h2 hw ho hS hl)
theorem wt_ov_lcmpE (h : wt_OkO X o cc nL own d Km) {x y : Int64} (e : x = y) (hd : decode cc pc = .ok (.lcmp, 1)) (k : wt_Ov X o v K σ (pc + 1) lv (.int 0 :: st)) : wt_Ov X o v K σ pc lv (.long y :: .long x :: st) :=
  fun H locs ls ce sl h1 h2 hw ho hS hl => W.lcmp h.1.1 h.1.2.1 hd (by
    have e1 : lg_cmp x y = 0 := by rw [e]; simp [lg_cmp]
    rw [e1]
    exact k H locs ls ce sl h1 h2 hw ho hS hl)
theorem wt_ov_ifeqT (h : wt_OkO X o cc nL own d Km) {off : Int} (tgt : Nat) (hd : decode cc pc = .ok (.ifCond .eq off, 3)) (ht : (pc : Int) + off = (tgt : Int)) (k : wt_Ov X o v K σ tgt lv st) : wt_Ov X o v K σ pc lv (.int 0 :: st) :=
  fun H locs ls ce sl h1 h2 hw ho hS hl => lv_if_eq h.1.1 h.1.2.1 hd ht (fun _ => k H locs ls ce sl h1 h2 hw ho hS hl) (fun c => absurd rfl c)
theorem wt_ov_ifneF (h : wt_OkO X o cc nL own d Km) {off : Int} (tgt : Nat) (hd : decode cc pc = .ok (.ifCond .ne off, 3)) (ht : (pc : Int) + off = (tgt : Int)) (k : wt_Ov X o v K σ (pc + 3) lv st) : wt_Ov X o v K σ pc lv (.int 0 :: st) :=
  fun H locs ls ce sl h1 h2 hw ho hS hl => lv_if_ne h.1.1 h.1.2.1 hd ht (fun c => absurd rfl c) (fun _ => k H locs ls ce sl h1 h2 hw ho hS hl)
theorem wt_o_ifneT (h : wt_OkO X o cc nL own d Km) {x : Int32} {off : Int} (tgt : Nat) (hx : ¬ x = 0) (hd : decode cc pc = .ok (.ifCond .ne off, 3)) (ht : (pc : Int) + off = (tgt : Int)) (k : wt_O X o K σ tgt lv st) : wt_O X o K σ pc lv (.int x :: st) :=
  fun H locs ls ce sl h1 h2 hw ho hS hl => lv_if_ne h.1.1 h.1.2.1 hd ht (fun _ => k H locs ls ce sl h1 h2 hw ho hS hl) (fun c => absurd c hx)
end WOV
