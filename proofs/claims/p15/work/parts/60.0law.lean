/-! the law's own frames: the world, and beside it one cell of the law's own (a long), which nobody reads -/
def wt_out (o : Nat) (U : State) (H : Heap) : Prop := ∃ cell : Cell, H[o]? = some cell ∧ U.isArrayOf cell .long ∧ cell.vm ≠ .unknown ∧ cell.slots.size = 1
theorem wt_out.moved {o : Nat} {u U : State} {H : Heap} (hvm : u.vm.Alike U.vm) (h : wt_out o u H) : wt_out o U H := by
  obtain ⟨cell, h1, h2, h3⟩ := h
  exact ⟨cell, h1, State.isArrayOf_alike hvm h2, h3⟩
theorem wt_out.kept {o : Nat} {U : State} {H H1 : Heap} (h : wt_out o U H) (hq : H1[o]? = H[o]?) : wt_out o U H1 := by
  obtain ⟨cell, h1, h2⟩ := h
  exact ⟨cell, hq.trans h1, h2⟩
theorem wt_out.lt {o : Nat} {U : State} {H : Heap} (h : wt_out o U H) : o < H.size := by
  obtain ⟨cell, h1, -⟩ := h
  exact (Array.getElem?_eq_some_iff.mp h1).1
def wt_Ao (w : wt_E) (o sz : Nat) : Nat → Prop := fun q => q = o ∨ wt_A w sz q
def wt_OkO (X : wt_X) (o : Nat) (cc : ByteArray) (nL : Nat) (own : String) (d Km : Nat) : Prop := wt_Ok X cc nL own d Km ∧ wt_FX (wt_Ao (wt_xw X) o (wt_xs X).heap.size) (wt_xs X) (wt_xs X).heap ∧ (∀ i, wt_dom (wt_xw X) i → wt_ad (wt_xw X) i ≠ o)
def wt_O (X : wt_X) (o K : Nat) (σ : wt_St) (pc : Nat) (lv : List (Option Value)) (st : List Value) : Prop :=
  ∀ (H : Heap) (locs : List Loc) (ls : Array Slot) (ce sl : Nat), ce ≤ K → sl ≤ 16 * K → wt_Wd (wt_xw X) σ H → wt_out o (wt_xs X) H → va_S (wt_Ao (wt_xw X) o (wt_xs X).heap.size) (wt_xs X).heap H locs → wt_lo ls (wt_xn X) lv → wt_W X H locs ce sl (F0 (wt_xm X) pc ls st)
def wt_SN : wt_SP := fun _ U _ => va_Nc "java/lang/IllegalArgumentException" "java/util/NoSuchElementException" U ∧ va_Nc "java/lang/IllegalArgumentException" "java/lang/IndexOutOfBoundsException" U
theorem wt_SN_fx : wt_Fx wt_SN := ⟨fun _ _ _ _ h _ => h, fun _ _ _ _ h _ => h, fun _ _ _ _ hW h => ⟨va_Nc.moved hW.alike h.1, va_Nc.moved hW.alike h.2⟩, fun _ _ _ _ hv h => ⟨va_Nc.moved (wt_alR hv) h.1, va_Nc.moved (wt_alR hv) h.2⟩⟩
section WO1
variable {X : wt_X} {o : Nat} {cc : ByteArray} {nL : Nat} {own : String} {d Km K : Nat} {σ : wt_St} {pc : Nat} {lv : List (Option Value)} {st : List Value}
theorem wt_o_kup {K' : Nat} (h : K ≤ K') (k : wt_O X o K' σ pc lv st) : wt_O X o K σ pc lv st :=
  fun H locs ls ce sl h1 h2 hw ho hS hl => k H locs ls ce sl (by omega) (by omega) hw ho hS hl
theorem wt_o_sub {lv' : List (Option Value)} (hs : ∀ (j : Nat) (v : Value), lv'[j]? = some (some v) → lv[j]? = some (some v)) (k : wt_O X o K σ pc lv' st) : wt_O X o K σ pc lv st :=
  fun H locs ls ce sl h1 h2 hw ho hS hl => k H locs ls ce sl h1 h2 hw ho hS (hl.sub hs)
theorem wt_o_wk (bs : List Bool) {lv' : List (Option Value)} (hm : wt_mask bs lv = lv') (k : wt_O X o K σ pc lv' st) : wt_O X o K σ pc lv st := wt_o_sub (fun j v hj => wt_mask_sub bs lv j v (by rw [hm]; exact hj)) k
theorem wt_o_iconst (h : wt_OkO X o cc nL own d Km) {n : Int} (v : Int32) (hd : decode cc pc = .ok (.iconst n, 1)) (hv : Int32.ofInt n = v) (k : wt_O X o K σ (pc + 1) lv (.int v :: st)) : wt_O X o K σ pc lv st :=
  fun H locs ls ce sl h1 h2 hw ho hS hl => lv_iconst h.1.1 h.1.2.1 hd hv (k H locs ls ce sl h1 h2 hw ho hS hl)
theorem wt_o_bipush (h : wt_OkO X o cc nL own d Km) {n : Int} (v : Int32) (hd : decode cc pc = .ok (.bipush n, 2)) (hv : (Int8.ofInt n).toInt32 = v) (k : wt_O X o K σ (pc + 2) lv (.int v :: st)) : wt_O X o K σ pc lv st :=
  fun H locs ls ce sl h1 h2 hw ho hS hl => lv_bipush h.1.1 h.1.2.1 hd hv (k H locs ls ce sl h1 h2 hw ho hS hl)
theorem wt_o_iload_n (h : wt_OkO X o cc nL own d Km) {i : Fin 4} {x : Int32} (hd : decode cc pc = .ok (.iload_n i, 1)) (hv : lv[(i : Nat)]? = some (some (.int x))) (k : wt_O X o K σ (pc + 1) lv (.int x :: st)) : wt_O X o K σ pc lv st :=
  fun H locs ls ce sl h1 h2 hw ho hS hl => lv_iload_n h.1.1 h.1.2.1 hd rfl (hl.2.2 _ _ hv).2 (k H locs ls ce sl h1 h2 hw ho hS hl)
theorem wt_o_iload (h : wt_OkO X o cc nL own d Km) {i : Nat} {x : Int32} (hd : decode cc pc = .ok (.iload i, 2)) (hv : lv[i]? = some (some (.int x))) (k : wt_O X o K σ (pc + 2) lv (.int x :: st)) : wt_O X o K σ pc lv st :=
  fun H locs ls ce sl h1 h2 hw ho hS hl => lv_iload h.1.1 h.1.2.1 hd (hl.2.2 _ _ hv).2 (k H locs ls ce sl h1 h2 hw ho hS hl)
theorem wt_o_aload_n (h : wt_OkO X o cc nL own d Km) {i : Fin 4} {x : Nat} (hd : decode cc pc = .ok (.aload_n i, 1)) (hv : lv[(i : Nat)]? = some (some (.ref x))) (k : wt_O X o K σ (pc + 1) lv (.ref x :: st)) : wt_O X o K σ pc lv st :=
  fun H locs ls ce sl h1 h2 hw ho hS hl => lv_aload_n h.1.1 h.1.2.1 hd rfl (hl.2.2 _ _ hv).2 (k H locs ls ce sl h1 h2 hw ho hS hl)
theorem wt_o_aload (h : wt_OkO X o cc nL own d Km) {i : Nat} {x : Nat} (hd : decode cc pc = .ok (.aload i, 2)) (hv : lv[i]? = some (some (.ref x))) (k : wt_O X o K σ (pc + 2) lv (.ref x :: st)) : wt_O X o K σ pc lv st :=
  fun H locs ls ce sl h1 h2 hw ho hS hl => lv_aload h.1.1 h.1.2.1 hd (hl.2.2 _ _ hv).2 (k H locs ls ce sl h1 h2 hw ho hS hl)
theorem wt_o_stn {v : Value} (h : wt_OkO X o cc nL own d Km) {i : Nat} {n : Nat} {lv' : List (Option Value)} (hin : i < nL) (hc : v.category = 1) (hl' : lv.set i (some v) = lv') (k : wt_O X o K σ (pc + n) lv' st)
    (step : ∀ (H : Heap) (locs : List Loc) (ls ls' : Array Slot) (ce sl : Nat), storeLocals ls i v = some ls' → wt_W X H locs ce sl (F0 (wt_xm X) (pc + n) ls' st) → wt_W X H locs ce sl (F0 (wt_xm X) pc ls (v :: st))) : wt_O X o K σ pc lv (v :: st) := by
  intro H locs ls ce sl h1 h2 hw ho hS hl
  obtain ⟨ls', e, hl2⟩ := hl.store (i := i) (v := v) (by rw [h.1.2.2.2.1]; exact hin) hc
  exact step H locs ls ls' ce sl e (k H locs ls' ce sl h1 h2 hw ho hS (hl' ▸ hl2))
theorem wt_o_istore (h : wt_OkO X o cc nL own d Km) {i : Nat} {x : Int32} (lv' : List (Option Value)) (hd : decode cc pc = .ok (.istore i, 2)) (hin : i < nL) (hl' : lv.set i (some (.int x)) = lv') (k : wt_O X o K σ (pc + 2) lv' st) : wt_O X o K σ pc lv (.int x :: st) := by
  refine wt_o_stn h hin rfl hl' k fun H locs ls ls' ce sl e kk => ?_
  obtain ⟨hexec, hb, -⟩ := h.1
  intro T hT Y
  obtain ⟨t, a, b⟩ := kk T hT Y
  refine ⟨t, ?_, b⟩
  jvm_step Y.here [Y.here.top, ↓top_set Y.here.top, hexec, hb, hd, e]
  exact a
theorem wt_o_astore_n (h : wt_OkO X o cc nL own d Km) {i : Fin 4} {x : Nat} (lv' : List (Option Value)) (hd : decode cc pc = .ok (.astore_n i, 1)) (hin : (i : Nat) < nL) (hl' : lv.set (i : Nat) (some (.ref x)) = lv') (k : wt_O X o K σ (pc + 1) lv' st) : wt_O X o K σ pc lv (.ref x :: st) := by
  refine wt_o_stn h hin rfl hl' k fun H locs ls ls' ce sl e kk => ?_
  obtain ⟨hexec, hb, -⟩ := h.1
  intro T hT Y
  obtain ⟨t, a, b⟩ := kk T hT Y
  refine ⟨t, ?_, b⟩
  jvm_step Y.here [Y.here.top, ↓top_set Y.here.top, hexec, hb, hd, e]
  exact ⟨rfl, a⟩
theorem wt_o_astore (h : wt_OkO X o cc nL own d Km) {i : Nat} {x : Nat} (lv' : List (Option Value)) (hd : decode cc pc = .ok (.astore i, 2)) (hin : i < nL) (hl' : lv.set i (some (.ref x)) = lv') (k : wt_O X o K σ (pc + 2) lv' st) : wt_O X o K σ pc lv (.ref x :: st) := by
  refine wt_o_stn h hin rfl hl' k fun H locs ls ls' ce sl e kk => ?_
  obtain ⟨hexec, hb, -⟩ := h.1
  intro T hT Y
  obtain ⟨t, a, b⟩ := kk T hT Y
  refine ⟨t, ?_, b⟩
  jvm_step Y.here [Y.here.top, ↓top_set Y.here.top, hexec, hb, hd, e]
  exact ⟨rfl, a⟩
theorem wt_o_iinc (h : wt_OkO X o cc nL own d Km) {i : Nat} {n : Int} {x : Int32} (v : Int32) (lv' : List (Option Value)) (hd : decode cc pc = .ok (.iinc i n, 3)) (hin : i < nL) (hg : lv[i]? = some (some (.int x))) (hv : x + Int32.ofInt n = v) (hl' : lv.set i (some (.int v)) = lv') (k : wt_O X o K σ (pc + 3) lv' st) : wt_O X o K σ pc lv st := by
  intro H locs ls ce sl h1 h2 hw ho hS hl
  subst hv
  obtain ⟨ls', e, hl2⟩ := hl.store (i := i) (v := .int (x + Int32.ofInt n)) (by rw [h.1.2.2.2.1]; exact hin) rfl
  have hg2 := (hl.2.2 _ _ hg).2
  obtain ⟨hexec, hb, -⟩ := h.1
  intro T hT Y
  obtain ⟨t, a, b⟩ := k H locs ls' ce sl h1 h2 hw ho hS (hl' ▸ hl2) T hT Y
  refine ⟨t, ?_, b⟩
  jvm_step Y.here [Y.here.top, ↓top_set Y.here.top, hexec, hb, hd, hg2, e]
  exact a
theorem wt_o_iadd (h : wt_OkO X o cc nL own d Km) {x y : Int32} (hd : decode cc pc = .ok (.iadd, 1)) (k : wt_O X o K σ (pc + 1) lv (.int (x + y) :: st)) : wt_O X o K σ pc lv (.int y :: .int x :: st) :=
  fun H locs ls ce sl h1 h2 hw ho hS hl => lv_iadd h.1.1 h.1.2.1 hd (k H locs ls ce sl h1 h2 hw ho hS hl)
theorem wt_o_isub (h : wt_OkO X o cc nL own d Km) {x y : Int32} (hd : decode cc pc = .ok (.isub, 1)) (k : wt_O X o K σ (pc + 1) lv (.int (x - y) :: st)) : wt_O X o K σ pc lv (.int y :: .int x :: st) :=
  fun H locs ls ce sl h1 h2 hw ho hS hl => lv_isub h.1.1 h.1.2.1 hd (k H locs ls ce sl h1 h2 hw ho hS hl)
theorem wt_o_iand (h : wt_OkO X o cc nL own d Km) {x y : Int32} (hd : decode cc pc = .ok (.iand, 1)) (k : wt_O X o K σ (pc + 1) lv (.int (x &&& y) :: st)) : wt_O X o K σ pc lv (.int y :: .int x :: st) :=
  fun H locs ls ce sl h1 h2 hw ho hS hl => lv_iand h.1.1 h.1.2.1 hd (k H locs ls ce sl h1 h2 hw ho hS hl)
theorem wt_o_pop (h : wt_OkO X o cc nL own d Km) {v : Value} (hd : decode cc pc = .ok (.pop, 1)) (hc : v.category = 1) (k : wt_O X o K σ (pc + 1) lv st) : wt_O X o K σ pc lv (v :: st) :=
  fun H locs ls ce sl h1 h2 hw ho hS hl => lv_pop h.1.1 h.1.2.1 hd hc (k H locs ls ce sl h1 h2 hw ho hS hl)
theorem wt_o_goto (h : wt_OkO X o cc nL own d Km) {off : Int} (tgt : Nat) (hd : decode cc pc = .ok (.goto off, 3)) (ht : (pc : Int) + off = (tgt : Int)) (k : wt_O X o K σ tgt lv st) : wt_O X o K σ pc lv st :=
  fun H locs ls ce sl h1 h2 hw ho hS hl => lv_goto h.1.1 h.1.2.1 hd ht (k H locs ls ce sl h1 h2 hw ho hS hl)
theorem wt_o_icmp_gt (h : wt_OkO X o cc nL own d Km) {x y : Int32} {off : Int} (tgt : Nat) (hd : decode cc pc = .ok (.if_icmp .gt off, 3)) (ht : (pc : Int) + off = (tgt : Int)) (kt : y < x → wt_O X o K σ tgt lv st) (kf : ¬ y < x → wt_O X o K σ (pc + 3) lv st) : wt_O X o K σ pc lv (.int y :: .int x :: st) :=
  fun H locs ls ce sl h1 h2 hw ho hS hl => lv_icmp_gt h.1.1 h.1.2.1 hd ht (fun c => kt c H locs ls ce sl h1 h2 hw ho hS hl) (fun c => kf c H locs ls ce sl h1 h2 hw ho hS hl)
theorem wt_o_icmp_eqT (h : wt_OkO X o cc nL own d Km) {x y : Int32} {off : Int} (tgt : Nat) (hd : decode cc pc = .ok (.if_icmp .eq off, 3)) (ht : (pc : Int) + off = (tgt : Int)) (he : x = y) (kt : wt_O X o K σ tgt lv st) : wt_O X o K σ pc lv (.int y :: .int x :: st) :=
  fun H locs ls ce sl h1 h2 hw ho hS hl => lv_icmp_eq h.1.1 h.1.2.1 hd ht (fun c => kt H locs ls ce sl h1 h2 hw ho hS hl) (fun c => absurd he c)
theorem wt_o_tsIn (h : wt_OkO X o cc nL own d Km) {dflt lo hi : Int} {offs : Array Int} {len : Nat} {x c : Int32} {off : Int} (tgt : Nat) (hc : x = c) (hd : decode cc pc = .ok (.tableswitch dflt lo hi offs, len)) (h1 : ¬ c.toInt < lo) (h2 : ¬ hi < c.toInt) (hof : offs[(c.toInt - lo).toNat]? = some off) (ht : (pc : Int) + off = (tgt : Int)) (k : wt_O X o K σ tgt lv st) : wt_O X o K σ pc lv (.int x :: st) :=
  fun H locs ls ce sl h3 h4 hw ho hS hl => lv_tableIn h.1.1 h.1.2.1 hd (by rw [hc]; exact h1) (by rw [hc]; exact h2) (by rw [hc]; exact hof) ht (k H locs ls ce sl h3 h4 hw ho hS hl)
theorem wt_o_tsOut (h : wt_OkO X o cc nL own d Km) {dflt hi : Int} {offs : Array Int} {len : Nat} {x : Int32} (n tgt : Nat) (hhi : hi + 1 = (n : Int)) (hn : n < 1000) (hx : ∀ j : Nat, j < n → ¬ x = nI j) (hd : decode cc pc = .ok (.tableswitch dflt 0 hi offs, len)) (ht : (pc : Int) + dflt = (tgt : Int)) (k : wt_O X o K σ tgt lv st) : wt_O X o K σ pc lv (.int x :: st) := by
  refine fun H locs ls ce sl h3 h4 hw ho hS hl => lv_tableOut h.1.1 h.1.2.1 hd ?_ ht (k H locs ls ce sl h3 h4 hw ho hS hl)
  by_cases h0 : x.toInt < 0
  · exact Or.inl h0
  · refine Or.inr ?_
    by_cases h5 : x.toInt < n
    · exfalso
      refine hx x.toInt.toNat (by omega) (Int32.toInt_inj.mp ?_)
      rw [nI_toInt (by omega)]
      omega
    · omega
/-! the script -/
def wt_scr (X : wt_X) (o b L : Nat) (xs : Nat → Int32) : Prop := va_X b L xs (wt_xs X) (wt_xs X).heap ∧ b < (wt_xs X).heap.size ∧ ¬ wt_Ao (wt_xw X) o (wt_xs X).heap.size b
theorem wt_o_sld (h : wt_OkO X o cc nL own d Km) {b L : Nat} {xs : Nat → Int32} (hX : wt_scr X o b L xs) {i : Int32} (hin : vp_in i L) (hd : decode cc pc = .ok (.iaload, 1)) (k : wt_O X o K σ (pc + 1) lv (.int (xs i.toNatClampNeg) :: st)) : wt_O X o K σ pc lv (.int i :: .ref b :: st) :=
  fun H locs ls ce sl h1 h2 hw ho hS hl => va_sld h.1.1 h.1.2.1 hX.1 hX.2.1 hX.2.2 hS hin hd (k H locs ls ce sl h1 h2 hw ho hS hl)
theorem wt_o_slen (h : wt_OkO X o cc nL own d Km) {b L : Nat} {xs : Nat → Int32} (hX : wt_scr X o b L xs) (hd : decode cc pc = .ok (.arraylength, 1)) (k : wt_O X o K σ (pc + 1) lv (.int (Int32.ofNat L) :: st)) : wt_O X o K σ pc lv (.ref b :: st) :=
  fun H locs ls ce sl h1 h2 hw ho hS hl => va_slen h.1.1 h.1.2.1 hX.1 hX.2.1 hX.2.2 hS hd (k H locs ls ce sl h1 h2 hw ho hS hl)
/-- an int put away as a long -/
theorem wt_o_put (h : wt_OkO X o cc nL own d Km) {x : Int32} (hd1 : decode cc pc = .ok (.i2l, 1)) (hd2 : decode cc (pc + 1) = .ok (.lastore, 1)) (k : wt_O X o K σ (pc + 2) lv st) : wt_O X o K σ pc lv (.int x :: .int 0 :: .ref o :: st) := by
  intro H locs ls ce sl h1 h2 hw ho hS hl
  obtain ⟨cell, g1, g2, g3, g4⟩ := ho
  have hlt : o < H.size := (Array.getElem?_eq_some_iff.mp g1).1
  refine lv_i2l h.1.1 h.1.2.1 hd1 rfl ?_
  refine W.last (x := x.toInt64) (j := 0) (a := o) (rest := st) h.1.1 h.1.2.1 g1 g2 g3 (by rw [g4]; decide) rfl rfl hd2 fun H1 e z oq => ?_
  have hA : wt_Ao (wt_xw X) o (wt_xs X).heap.size o := Or.inl rfl
  refine k H1 _ ls ce sl h1 h2 ⟨fun i hi => (hw.1 i hi).kept (oq _ (h.2.2 i hi)), hw.2⟩ ⟨_, e, g2, g3, ?_⟩ (hS.put z oq hA) hl
  show (cell.slots.setIfInBounds _ _).size = 1
  rw [Array.size_setIfInBounds]
  exact g4
/-! calls -/
theorem wt_o_pre {s U : State} {w : wt_E} {o : Nat} {σ : wt_St} {H : Heap} {locs : List Loc} {av : List Value} (hK : va_K (wt_wD w) wt_cl (wt_tys w) s) (hN : wt_NW s) (hF : wt_FX (wt_Ao w o s.heap.size) s s.heap) (hS : va_S (wt_Ao w o s.heap.size) s.heap H locs) (hw : wt_Wd w σ H) (hU : U.heap = H) (hW : s.WarmedH U.vm) : wt_PcS w wt_S0 av σ H.size av.toArray U := by
  have hAA : ∀ q : Nat, wt_A w H.size q → wt_Ao w o s.heap.size q := fun q hq => Or.inr (hq.elim Or.inl (fun z => Or.inr (Nat.le_trans hS.1 z)))
  subst hU
  exact ⟨rfl, rfl, hw, va_K.moved hW.alike hK, hN.warm hW, wt_FX_fx.2.2.1 _ _ _ _ hW (wt_FX_fx.2.1 _ _ _ _ (wt_FX_fx.1 _ _ _ _ hF hS.2.1) hAA), trivial⟩
theorem wt_o_join {w : wt_E} {sz : Nat} {H0 H H1 : Heap} {locs L : List Loc} {σ : wt_St} {U : State} (hsz : H0.size = sz) (hod : ∀ i, wt_dom w i → wt_ad w i ≠ o) (ho : wt_out o U H) (hS : va_S (wt_Ao w o sz) H0 H locs) (hz : H.size ≤ H1.size) (hk : ∀ q : Nat, q < H.size → ¬ wt_A w H.size q → H1[q]? = H[q]?) (hL : ∀ q ∈ L, wt_A w H.size q.base) : va_S (wt_Ao w o sz) H0 H1 (locs ++ L) ∧ wt_out o U H1 := by
  have hAA : ∀ q : Nat, wt_A w H.size q → wt_Ao w o sz q := fun q hq => Or.inr (hq.elim Or.inl (fun z => Or.inr (Nat.le_trans (hsz ▸ hS.1) z)))
  refine ⟨⟨Nat.le_trans hS.1 hz, fun q g1 g2 => (hk q (Nat.lt_of_lt_of_le g1 hS.1) (fun z => g2 (hAA q z))).trans (hS.2.1 q g1 g2), fun q hq => ?_⟩, ho.kept (hk o ho.lt ?_)⟩
  · rcases List.mem_append.mp hq with g | g
    · exact hS.2.2 q g
    · exact hAA _ (hL q g)
  · rintro (⟨i, hi, e⟩ | hge)
    · exact hod i hi e.symm
    · exact absurd ho.lt (Nat.not_lt.mpr hge)
theorem wt_o_callVi (h : wt_OkO X o cc nL own d Km) {idx : Nat} {y : MethodName} {b : ByteArray} {n k dd ci nn N i : Nat} {rs : List Nat} {T : u_T} {rt : Option FieldType} (As : List Value) {st0 : List Value} {r : Int32} {σ' : wt_St} (mv : wt_MV own idx y) (hy : wt_Ya y b n rt k) (hc : wt_Ctr (wt_xl X) (wt_xw X) y b n rt dd (.ref (wt_ad (wt_xw X) i) :: As) σ (some r) σ') (hd1 : dd + 1 ≤ d) (hi : wt_dom (wt_xw X) i) (hL : wt_LAY[i]? = some (ci + 3, nn, rs)) (hcl : wt_cl[ci]? = some (y.cls, T, N)) (hlen : As.length = k) (hst : As.reverse ++ .ref (wt_ad (wt_xw X) i) :: st = st0) (hro : (st.map fun v => v.category).sum ≤ 8) (hK : K ≤ Km) (hd : decode cc pc = .ok (.invokevirtual idx, 3))
    (kk : wt_O X o K σ' (pc + 3) lv (.int r :: st)) : wt_O X o K σ pc lv st0 := by
  intro H locs ls ce sl h1 h2 hw ho hS hl
  obtain ⟨hlink, hin, hsel, hini⟩ := mv
  obtain ⟨⟨hx, hb, hml, hn, hown, hts, hKK, hN, r1, r2, r3, r4, hlk, -⟩, hFX, hod⟩ := id h
  have hP := hw.one hi
  unfold wt_cell at hP
  rw [wt_ce_ob hL] at hP
  have hrecv := va_recv hKK hP hcl (q0 := 0) rfl
  have hpv : PreV (wt_xs X) H y.cls (wt_ad (wt_xw X) i) (wt_PcS (wt_xw X) wt_S0 (.ref (wt_ad (wt_xw X) i) :: As) σ H.size) As := ⟨wt_blind _ wt_True_fx _ _ _, hrecv, fun U hU hW => wt_o_pre hKK hN hFX hS hw hU hW⟩
  have hfix : CallFix (wt_xp X) (wt_xm X) (wt_xc X) cc nL (wt_xs X) (wt_xa X) wt_GT own := ⟨hx, hb, hml, hown, hts⟩
  have hsz : ls.size = nL := by rw [hl.1, hn]
  have hroo : (wt_rm dd).frames + 1 ≤ (wt_xR X).frames ∧ 8 + (n + 11) + (wt_rm dd).locals ≤ (wt_xR X).locals := by
    have := hy.2.2
    exact ⟨by show dd + 1 ≤ _; omega, by show 8 + (n + 11) + 64 * dd ≤ _; omega⟩
  have run : va_Run (wt_xp X) (wt_xl X) (wt_xe X) (wt_xR X) (wt_xs X) (wt_xm X) (wt_xa X) (wt_xb X) (wt_xM X) (wt_xc X) H locs ce sl 0 0 (F0 (wt_xm X) pc ls st0) st (wt_Qc (wt_xw X) rt (some r) σ' H.size (Value.ref (wt_ad (wt_xw X) i) :: As).toArray) (wt_A (wt_xw X) H.size) := by
    rcases hlink with hlink | ⟨host, hlink⟩
    · exact va_runV hfix (hc H.size) ⟨callB_of k hts (wt_goodG h.1 hy.2.1) rfl rfl rfl (hts _ hini) (hts _ hlink) hy.1 hroo, hts _ hin, hts _ hsel⟩ hpv rfl hlen hsz hst.symm (lv_room hro) hd ⟨by omega, by omega⟩
    · exact va_runVN hfix (hc H.size) ⟨va_cnB (host := host) k hts (wt_goodG h.1 hy.2.1) rfl rfl rfl (hN _ hlink) (hts _ hini) hy.1 hroo, hts _ hin, hts _ hsel⟩ hpv rfl hlen hsz hst.symm (lv_room hro) hd ⟨by omega, by omega⟩
  intro T hT Y
  obtain ⟨v, st₀, t, T', L, h0, Y', hL, e1, e2, ⟨⟨hv, -, hwd⟩, hz, hk⟩, stp⟩ := run T hT Y
  have hv2 : v = some (.int r) := Outcome.returned.inj hv
  subst hv2
  rw [h0] at hz hk
  obtain ⟨j1, j2⟩ := wt_o_join rfl hod ho hS (H1 := T'.heap) (L := L) (σ := σ) (by rw [e1]; exact hz) (fun q g1 g2 => by rw [e1]; exact hk q g1 g2) hL
  obtain ⟨t2, a1, b1⟩ := kk T'.heap (locs ++ L) ls (ce + 0) (sl + 0) h1 h2 (by rw [e1]; exact hwd) j2 j1 hl T' rfl Y'
  exact ⟨t2, stp t2 a1, b1⟩
end WO1
