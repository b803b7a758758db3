-- 60.0law.lean.txt
section WTQ0
/-! the law's own frames: the world, and beside it one cell of the law's own (a long), which nobody reads -/
def wt_out (o : Nat) (U : State) (H : Heap) : Prop := ∃ cell : Cell, H[o]? = some cell ∧ U.isArrayOf cell .long ∧ cell.vm ≠ .unknown ∧ cell.slots.size = 1
theorem wt_out.moved {o : Nat} {u U : State} {H : Heap} (hvm : u.vm.Alike U.vm) (h : wt_out o u H) : wt_out o U H := by
  obtain ⟨cell, h1, h2, h3⟩ := h
  exact ⟨cell, h1, State.isArrayOf_alike hvm h2, h3⟩
theorem wt_out.kept {o : Nat} {U : State} {H H1 : Heap} (h : wt_out o U H) (hq : H1[o]? = H[o]?) : wt_out o U H1 := by
  obtain ⟨cell, h1, h2⟩ := h
  exact ⟨cell, hq.trans h1, h2⟩
theorem wt_out.lt {o : Nat} {U : State} {H : Heap} (h : wt_out o U H) : o < H.size := by
  obtain ⟨cell, h1, -⟩ := h
  exact (Array.getElem?_eq_some_iff.mp h1).1
def wt_Ao (w : wt_E) (o sz : Nat) : Nat → Prop := fun q => q = o ∨ wt_A w sz q
def wt_OkO (X : wt_X) (o : Nat) (cc : ByteArray) (nL : Nat) (own : String) (d Km : Nat) : Prop := wt_Ok X cc nL own d Km ∧ wt_FX (wt_Ao (wt_xw X) o (wt_xs X).heap.size) (wt_xs X) (wt_xs X).heap ∧ (∀ i, wt_dom (wt_xw X) i → wt_ad (wt_xw X) i ≠ o)
def wt_O (X : wt_X) (o K : Nat) (σ : wt_St) (pc : Nat) (lv : List (Option Value)) (st : List Value) : Prop :=
  ∀ (H : Heap) (locs : List Loc) (ls : Array Slot) (ce sl : Nat), ce ≤ K → sl ≤ 16 * K → wt_Wd (wt_xw X) σ H → wt_out o (wt_xs X) H → va_S (wt_Ao (wt_xw X) o (wt_xs X).heap.size) (wt_xs X).heap H locs → wt_lo ls (wt_xn X) lv → wt_W X H locs ce sl (F0 (wt_xm X) pc ls st)
def wt_SN : wt_SP := fun _ U _ => va_Nc "java/lang/IllegalArgumentException" "java/util/NoSuchElementException" U ∧ va_Nc "java/lang/IllegalArgumentException" "java/lang/IndexOutOfBoundsException" U
theorem wt_SN_fx : wt_Fx wt_SN := ⟨fun _ _ _ _ h _ => h, fun _ _ _ _ h _ => h, fun _ _ _ _ hW h => ⟨va_Nc.moved hW.alike h.1, va_Nc.moved hW.alike h.2⟩, fun _ _ _ _ hv h => ⟨va_Nc.moved (wt_alR hv) h.1, va_Nc.moved (wt_alR hv) h.2⟩⟩
section WO1
variable {X : wt_X} {o : Nat} {cc : ByteArray} {nL : Nat} {own : String} {d Km K : Nat} {σ : wt_St} {pc : Nat} {lv : List (Option Value)} {st : List Value}
theorem wt_o_kup {K' : Nat} (h : K ≤ K') (k : wt_O X o K' σ pc lv st) : wt_O X o K σ pc lv st :=
  fun H locs ls ce sl h1 h2 hw ho hS hl => k H locs ls ce sl (by omega) (by omega) hw ho hS hl
theorem wt_o_sub {lv' : List (Option Value)} (hs : ∀ (j : Nat) (v : Value), lv'[j]? = some (some v) → lv[j]? = some (some v)) (k : wt_O X o K σ pc lv' st) : wt_O X o K σ pc lv st :=
  fun H locs ls ce sl h1 h2 hw ho hS hl => k H locs ls ce sl h1 h2 hw ho hS (hl.sub hs)
theorem wt_o_wk (bs : List Bool) {lv' : List (Option Value)} (hm : wt_mask bs lv = lv') (k : wt_O X o K σ pc lv' st) : wt_O X o K σ pc lv st := wt_o_sub (fun j v hj => wt_mask_sub bs lv j v (by rw [hm]; exact hj)) k
theorem wt_o_iconst (h : wt_OkO X o cc nL own d Km) {n : Int} (v : Int32) (hd : decode cc pc = .ok (.iconst n, 1)) (hv : Int32.ofInt n = v) (k : wt_O X o K σ (pc + 1) lv (.int v :: st)) : wt_O X o K σ pc lv st :=
  fun H locs ls ce sl h1 h2 hw ho hS hl => lv_iconst h.1.1 h.1.2.1 hd hv (k H locs ls ce sl h1 h2 hw ho hS hl)
theorem wt_o_bipush (h : wt_OkO X o cc nL own d Km) {n : Int} (v : Int32) (hd : decode cc pc = .ok (.bipush n, 2)) (hv : (Int8.ofInt n).toInt32 = v) (k : wt_O X o K σ (pc + 2) lv (.int v :: st)) : wt_O X o K σ pc lv st :=
  fun H locs ls ce sl h1 h2 hw ho hS hl => lv_bipush h.1.1 h.1.2.1 hd hv (k H locs ls ce sl h1 h2 hw ho hS hl)
theorem wt_o_iload_n (h : wt_OkO X o cc nL own d Km) {i : Fin 4} {x : Int32} (hd : decode cc pc = .ok (.iload_n i, 1)) (hv : lv[(i : Nat)]? = some (some (.int x))) (k : wt_O X o K σ (pc + 1) lv (.int x :: st)) : wt_O X o K σ pc lv st :=
  fun H locs ls ce sl h1 h2 hw ho hS hl => lv_iload_n h.1.1 h.1.2.1 hd rfl (hl.2.2 _ _ hv).2 (k H locs ls ce sl h1 h2 hw ho hS hl)
theorem wt_o_iload (h : wt_OkO X o cc nL own d Km) {i : Nat} {x : Int32} (hd : decode cc pc = .ok (.iload i, 2)) (hv : lv[i]? = some (some (.int x))) (k : wt_O X o K σ (pc + 2) lv (.int x :: st)) : wt_O X o K σ pc lv st :=
  fun H locs ls ce sl h1 h2 hw ho hS hl => lv_iload h.1.1 h.1.2.1 hd (hl.2.2 _ _ hv).2 (k H locs ls ce sl h1 h2 hw ho hS hl)
theorem wt_o_aload_n (h : wt_OkO X o cc nL own d Km) {i : Fin 4} {x : Nat} (hd : decode cc pc = .ok (.aload_n i, 1)) (hv : lv[(i : Nat)]? = some (some (.ref x))) (k : wt_O X o K σ (pc + 1) lv (.ref x :: st)) : wt_O X o K σ pc lv st :=
  fun H locs ls ce sl h1 h2 hw ho hS hl => lv_aload_n h.1.1 h.1.2.1 hd rfl (hl.2.2 _ _ hv).2 (k H locs ls ce sl h1 h2 hw ho hS hl)
theorem wt_o_aload (h : wt_OkO X o cc nL own d Km) {i : Nat} {x : Nat} (hd : decode cc pc = .ok (.aload i, 2)) (hv : lv[i]? = some (some (.ref x))) (k : wt_O X o K σ (pc + 2) lv (.ref x :: st)) : wt_O X o K σ pc lv st :=
  fun H locs ls ce sl h1 h2 hw ho hS hl => lv_aload h.1.1 h.1.2.1 hd (hl.2.2 _ _ hv).2 (k H locs ls ce sl h1 h2 hw ho hS hl)
theorem wt_o_stn {v : Value} (h : wt_OkO X o cc nL own d Km) {i : Nat} {n : Nat} {lv' : List (Option Value)} (hin : i < nL) (hc : v.category = 1) (hl' : lv.set i (some v) = lv') (k : wt_O X o K σ (pc + n) lv' st)
    (step : ∀ (H : Heap) (locs : List Loc) (ls ls' : Array Slot) (ce sl : Nat), storeLocals ls i v = some ls' → wt_W X H locs ce sl (F0 (wt_xm X) (pc + n) ls' st) → wt_W X H locs ce sl (F0 (wt_xm X) pc ls (v :: st))) : wt_O X o K σ pc lv (v :: st) := by
  intro H locs ls ce sl h1 h2 hw ho hS hl
  obtain ⟨ls', e, hl2⟩ := hl.store (i := i) (v := v) (by rw [h.1.2.2.2.1]; exact hin) hc
  exact step H locs ls ls' ce sl e (k H locs ls' ce sl h1 h2 hw ho hS (hl' ▸ hl2))
theorem wt_o_istore (h : wt_OkO X o cc nL own d Km) {i : Nat} {x : Int32} (lv' : List (Option Value)) (hd : decode cc pc = .ok (.istore i, 2)) (hin : i < nL) (hl' : lv.set i (some (.int x)) = lv') (k : wt_O X o K σ (pc + 2) lv' st) : wt_O X o K σ pc lv (.int x :: st) := by
  refine wt_o_stn h hin rfl hl' k fun H locs ls ls' ce sl e kk => ?_
  obtain ⟨hexec, hb, -⟩ := h.1
  intro T hT Y
  obtain ⟨t, a, b⟩ := kk T hT Y
  refine ⟨t, ?_, b⟩
  jvm_step Y.here [Y.here.top, ↓top_set Y.here.top, hexec, hb, hd, e]
  exact a
theorem wt_o_astore_n (h : wt_OkO X o cc nL own d Km) {i : Fin 4} {x : Nat} (lv' : List (Option Value)) (hd : decode cc pc = .ok (.astore_n i, 1)) (hin : (i : Nat) < nL) (hl' : lv.set (i : Nat) (some (.ref x)) = lv') (k : wt_O X o K σ (pc + 1) lv' st) : wt_O X o K σ pc lv (.ref x :: st) := by
  refine wt_o_stn h hin rfl hl' k fun H locs ls ls' ce sl e kk => ?_
  obtain ⟨hexec, hb, -⟩ := h.1
  intro T hT Y
  obtain ⟨t, a, b⟩ := kk T hT Y
  refine ⟨t, ?_, b⟩
  jvm_step Y.here [Y.here.top, ↓top_set Y.here.top, hexec, hb, hd, e]
  exact ⟨rfl, a⟩
theorem wt_o_astore (h : wt_OkO X o cc nL own d Km) {i : Nat} {x : Nat} (lv' : List (Option Value)) (hd : decode cc pc = .ok (.astore i, 2)) (hin : i < nL) (hl' : lv.set i (some (.ref x)) = lv') (k : wt_O X o K σ (pc + 2) lv' st) : wt_O X o K σ pc lv (.ref x :: st) := by
  refine wt_o_stn h hin rfl hl' k fun H locs ls ls' ce sl e kk => ?_
  obtain ⟨hexec, hb, -⟩ := h.1
  intro T hT Y
  obtain ⟨t, a, b⟩ := kk T hT Y
  refine ⟨t, ?_, b⟩
  jvm_step Y.here [Y.here.top, ↓top_set Y.here.top, hexec, hb, hd, e]
  exact ⟨rfl, a⟩
theorem wt_o_iinc (h : wt_OkO X o cc nL own d Km) {i : Nat} {n : Int} {x : Int32} (v : Int32) (lv' : List (Option Value)) (hd : decode cc pc = .ok (.iinc i n, 3)) (hin : i < nL) (hg : lv[i]? = some (some (.int x))) (hv : x + Int32.ofInt n = v) (hl' : lv.set i (some (.int v)) = lv') (k : wt_O X o K σ (pc + 3) lv' st) : wt_O X o K σ pc lv st := by
  intro H locs ls ce sl h1 h2 hw ho hS hl
  subst hv
  obtain ⟨ls', e, hl2⟩ := hl.store (i := i) (v := .int (x + Int32.ofInt n)) (by rw [h.1.2.2.2.1]; exact hin) rfl
  have hg2 := (hl.2.2 _ _ hg).2
  obtain ⟨hexec, hb, -⟩ := h.1
  intro T hT Y
  obtain ⟨t, a, b⟩ := k H locs ls' ce sl h1 h2 hw ho hS (hl' ▸ hl2) T hT Y
  refine ⟨t, ?_, b⟩
  jvm_step Y.here [Y.here.top, ↓top_set Y.here.top, hexec, hb, hd, hg2, e]
  exact a
theorem wt_o_iadd (h : wt_OkO X o cc nL own d Km) {x y : Int32} (hd : decode cc pc = .ok (.iadd, 1)) (k : wt_O X o K σ (pc + 1) lv (.int (x + y) :: st)) : wt_O X o K σ pc lv (.int y :: .int x :: st) :=
  fun H locs ls ce sl h1 h2 hw ho hS hl => lv_iadd h.1.1 h.1.2.1 hd (k H locs ls ce sl h1 h2 hw ho hS hl)
theorem wt_o_isub (h : wt_OkO X o cc nL own d Km) {x y : Int32} (hd : decode cc pc = .ok (.isub, 1)) (k : wt_O X o K σ (pc + 1) lv (.int (x - y) :: st)) : wt_O X o K σ pc lv (.int y :: .int x :: st) :=
  fun H locs ls ce sl h1 h2 hw ho hS hl => lv_isub h.1.1 h.1.2.1 hd (k H locs ls ce sl h1 h2 hw ho hS hl)
theorem wt_o_iand (h : wt_OkO X o cc nL own d Km) {x y : Int32} (hd : decode cc pc = .ok (.iand, 1)) (k : wt_O X o K σ (pc + 1) lv (.int (x &&& y) :: st)) : wt_O X o K σ pc lv (.int y :: .int x :: st) :=
  fun H locs ls ce sl h1 h2 hw ho hS hl => lv_iand h.1.1 h.1.2.1 hd (k H locs ls ce sl h1 h2 hw ho hS hl)
theorem wt_o_pop (h : wt_OkO X o cc nL own d Km) {v : Value} (hd : decode cc pc = .ok (.pop, 1)) (hc : v.category = 1) (k : wt_O X o K σ (pc + 1) lv st) : wt_O X o K σ pc lv (v :: st) :=
  fun H locs ls ce sl h1 h2 hw ho hS hl => lv_pop h.1.1 h.1.2.1 hd hc (k H locs ls ce sl h1 h2 hw ho hS hl)
theorem wt_o_goto (h : wt_OkO X o cc nL own d Km) {off : Int} (tgt : Nat) (hd : decode cc pc = .ok (.goto off, 3)) (ht : (pc : Int) + off = (tgt : Int)) (k : wt_O X o K σ tgt lv st) : wt_O X o K σ pc lv st :=
  fun H locs ls ce sl h1 h2 hw ho hS hl => lv_goto h.1.1 h.1.2.1 hd ht (k H locs ls ce sl h1 h2 hw ho hS hl)
theorem wt_o_icmp_gt (h : wt_OkO X o cc nL own d Km) {x y : Int32} {off : Int} (tgt : Nat) (hd : decode cc pc = .ok (.if_icmp .gt off, 3)) (ht : (pc : Int) + off = (tgt : Int)) (kt : y < x → wt_O X o K σ tgt lv st) (kf : ¬ y < x → wt_O X o K σ (pc + 3) lv st) : wt_O X o K σ pc lv (.int y :: .int x :: st) :=
  fun H locs ls ce sl h1 h2 hw ho hS hl => lv_icmp_gt h.1.1 h.1.2.1 hd ht (fun c => kt c H locs ls ce sl h1 h2 hw ho hS hl) (fun c => kf c H locs ls ce sl h1 h2 hw ho hS hl)
theorem wt_o_icmp_eqT (h : wt_OkO X o cc nL own d Km) {x y : Int32} {off : Int} (tgt : Nat) (hd : decode cc pc = .ok (.if_icmp .eq off, 3)) (ht : (pc : Int) + off = (tgt : Int)) (he : x = y) (kt : wt_O X o K σ tgt lv st) : wt_O X o K σ pc lv (.int y :: .int x :: st) :=
  fun H locs ls ce sl h1 h2 hw ho hS hl => lv_icmp_eq h.1.1 h.1.2.1 hd ht (fun c => kt H locs ls ce sl h1 h2 hw ho hS hl) (fun c => absurd he c)
theorem wt_o_tsIn (h : wt_OkO X o cc nL own d Km) {dflt lo hi : Int} {offs : Array Int} {len : Nat} {x c : Int32} {off : Int} (tgt : Nat) (hc : x = c) (hd : decode cc pc = .ok (.tableswitch dflt lo hi offs, len)) (h1 : ¬ c.toInt < lo) (h2 : ¬ hi < c.toInt) (hof : offs[(c.toInt - lo).toNat]? = some off) (ht : (pc : Int) + off = (tgt : Int)) (k : wt_O X o K σ tgt lv st) : wt_O X o K σ pc lv (.int x :: st) :=
  fun H locs ls ce sl h3 h4 hw ho hS hl => lv_tableIn h.1.1 h.1.2.1 hd (by rw [hc]; exact h1) (by rw [hc]; exact h2) (by rw [hc]; exact hof) ht (k H locs ls ce sl h3 h4 hw ho hS hl)
theorem wt_o_tsOut (h : wt_OkO X o cc nL own d Km) {dflt hi : Int} {offs : Array Int} {len : Nat} {x : Int32} (n tgt : Nat) (hhi : hi + 1 = (n : Int)) (hn : n < 1000) (hx : ∀ j : Nat, j < n → ¬ x = nI j) (hd : decode cc pc = .ok (.tableswitch dflt 0 hi offs, len)) (ht : (pc : Int) + dflt = (tgt : Int)) (k : wt_O X o K σ tgt lv st) : wt_O X o K σ pc lv (.int x :: st) := by
  refine fun H locs ls ce sl h3 h4 hw ho hS hl => lv_tableOut h.1.1 h.1.2.1 hd ?_ ht (k H locs ls ce sl h3 h4 hw ho hS hl)
  by_cases h0 : x.toInt < 0
  · exact Or.inl h0
  · refine Or.inr ?_
    by_cases h5 : x.toInt < n
    · exfalso
      refine hx x.toInt.toNat (by omega) (Int32.toInt_inj.mp ?_)
      rw [nI_toInt (by omega)]
      omega
    · omega
/-! the script -/
def wt_scr (X : wt_X) (o b L : Nat) (xs : Nat → Int32) : Prop := va_X b L xs (wt_xs X) (wt_xs X).heap ∧ b < (wt_xs X).heap.size ∧ ¬ wt_Ao (wt_xw X) o (wt_xs X).heap.size b
theorem wt_o_sld (h : wt_OkO X o cc nL own d Km) {b L : Nat} {xs : Nat → Int32} (hX : wt_scr X o b L xs) {i : Int32} (hin : vp_in i L) (hd : decode cc pc = .ok (.iaload, 1)) (k : wt_O X o K σ (pc + 1) lv (.int (xs i.toNatClampNeg) :: st)) : wt_O X o K σ pc lv (.int i :: .ref b :: st) :=
  fun H locs ls ce sl h1 h2 hw ho hS hl => va_sld h.1.1 h.1.2.1 hX.1 hX.2.1 hX.2.2 hS hin hd (k H locs ls ce sl h1 h2 hw ho hS hl)
theorem wt_o_slen (h : wt_OkO X o cc nL own d Km) {b L : Nat} {xs : Nat → Int32} (hX : wt_scr X o b L xs) (hd : decode cc pc = .ok (.arraylength, 1)) (k : wt_O X o K σ (pc + 1) lv (.int (Int32.ofNat L) :: st)) : wt_O X o K σ pc lv (.ref b :: st) :=
  fun H locs ls ce sl h1 h2 hw ho hS hl => va_slen h.1.1 h.1.2.1 hX.1 hX.2.1 hX.2.2 hS hd (k H locs ls ce sl h1 h2 hw ho hS hl)
/-- an int put away as a long -/
theorem wt_o_put (h : wt_OkO X o cc nL own d Km) {x : Int32} (hd1 : decode cc pc = .ok (.i2l, 1)) (hd2 : decode cc (pc + 1) = .ok (.lastore, 1)) (k : wt_O X o K σ (pc + 2) lv st) : wt_O X o K σ pc lv (.int x :: .int 0 :: .ref o :: st) := by
  intro H locs ls ce sl h1 h2 hw ho hS hl
  obtain ⟨cell, g1, g2, g3, g4⟩ := ho
  have hlt : o < H.size := (Array.getElem?_eq_some_iff.mp g1).1
  refine lv_i2l h.1.1 h.1.2.1 hd1 rfl ?_
  refine W.last (x := x.toInt64) (j := 0) (a := o) (rest := st) h.1.1 h.1.2.1 g1 g2 g3 (by rw [g4]; decide) rfl rfl hd2 fun H1 e z oq => ?_
  have hA : wt_Ao (wt_xw X) o (wt_xs X).heap.size o := Or.inl rfl
  refine k H1 _ ls ce sl h1 h2 ⟨fun i hi => (hw.1 i hi).kept (oq _ (h.2.2 i hi)), hw.2⟩ ⟨_, e, g2, g3, ?_⟩ (hS.put z oq hA) hl
  show (cell.slots.setIfInBounds _ _).size = 1
  rw [Array.size_setIfInBounds]
  exact g4
/-! calls -/
theorem wt_o_pre {s U : State} {w : wt_E} {o : Nat} {σ : wt_St} {H : Heap} {locs : List Loc} {av : List Value} (hK : va_K (wt_wD w) wt_cl (wt_tys w) s) (hN : wt_NW s) (hF : wt_FX (wt_Ao w o s.heap.size) s s.heap) (hS : va_S (wt_Ao w o s.heap.size) s.heap H locs) (hw : wt_Wd w σ H) (hU : U.heap = H) (hW : s.WarmedH U.vm) : wt_PcS w wt_S0 av σ H.size av.toArray U := by
  have hAA : ∀ q : Nat, wt_A w H.size q → wt_Ao w o s.heap.size q := fun q hq => Or.inr (hq.elim Or.inl (fun z => Or.inr (Nat.le_trans hS.1 z)))
  subst hU
  exact ⟨rfl, rfl, hw, va_K.moved hW.alike hK, hN.warm hW, wt_FX_fx.2.2.1 _ _ _ _ hW (wt_FX_fx.2.1 _ _ _ _ (wt_FX_fx.1 _ _ _ _ hF hS.2.1) hAA), trivial⟩
theorem wt_o_join {w : wt_E} {sz : Nat} {H0 H H1 : Heap} {locs L : List Loc} {σ : wt_St} {U : State} (hsz : H0.size = sz) (hod : ∀ i, wt_dom w i → wt_ad w i ≠ o) (ho : wt_out o U H) (hS : va_S (wt_Ao w o sz) H0 H locs) (hz : H.size ≤ H1.size) (hk : ∀ q : Nat, q < H.size → ¬ wt_A w H.size q → H1[q]? = H[q]?) (hL : ∀ q ∈ L, wt_A w H.size q.base) : va_S (wt_Ao w o sz) H0 H1 (locs ++ L) ∧ wt_out o U H1 := by
  have hAA : ∀ q : Nat, wt_A w H.size q → wt_Ao w o sz q := fun q hq => Or.inr (hq.elim Or.inl (fun z => Or.inr (Nat.le_trans (hsz ▸ hS.1) z)))
  refine ⟨⟨Nat.le_trans hS.1 hz, fun q g1 g2 => (hk q (Nat.lt_of_lt_of_le g1 hS.1) (fun z => g2 (hAA q z))).trans (hS.2.1 q g1 g2), fun q hq => ?_⟩, ho.kept (hk o ho.lt ?_)⟩
  · rcases List.mem_append.mp hq with g | g
    · exact hS.2.2 q g
    · exact hAA _ (hL q g)
  · rintro (⟨i, hi, e⟩ | hge)
    · exact hod i hi e.symm
    · exact absurd ho.lt (Nat.not_lt.mpr hge)
theorem wt_o_callVi (h : wt_OkO X o cc nL own d Km) {idx : Nat} {y : MethodName} {b : ByteArray} {n k dd ci nn N i : Nat} {rs : List Nat} {T : u_T} {rt : Option FieldType} (As : List Value) {st0 : List Value} {r : Int32} {σ' : wt_St} (mv : wt_MV own idx y) (hy : wt_Ya y b n rt k) (hc : wt_Ctr (wt_xl X) (wt_xw X) y b n rt dd (.ref (wt_ad (wt_xw X) i) :: As) σ (some r) σ') (hd1 : dd + 1 ≤ d) (hi : wt_dom (wt_xw X) i) (hL : wt_LAY[i]? = some (ci + 3, nn, rs)) (hcl : wt_cl[ci]? = some (y.cls, T, N)) (hlen : As.length = k) (hst : As.reverse ++ .ref (wt_ad (wt_xw X) i) :: st = st0) (hro : (st.map fun v => v.category).sum ≤ 8) (hK : K ≤ Km) (hd : decode cc pc = .ok (.invokevirtual idx, 3))
    (kk : wt_O X o K σ' (pc + 3) lv (.int r :: st)) : wt_O X o K σ pc lv st0 := by
  intro H locs ls ce sl h1 h2 hw ho hS hl
  obtain ⟨hlink, hin, hsel, hini⟩ := mv
  obtain ⟨⟨hx, hb, hml, hn, hown, hts, hKK, hN, r1, r2, r3, r4, hlk, -⟩, hFX, hod⟩ := id h
  have hP := hw.one hi
  unfold wt_cell at hP
  rw [wt_ce_ob hL] at hP
  have hrecv := va_recv hKK hP hcl (q0 := 0) rfl
  have hpv : PreV (wt_xs X) H y.cls (wt_ad (wt_xw X) i) (wt_PcS (wt_xw X) wt_S0 (.ref (wt_ad (wt_xw X) i) :: As) σ H.size) As := ⟨wt_blind _ wt_True_fx _ _ _, hrecv, fun U hU hW => wt_o_pre hKK hN hFX hS hw hU hW⟩
  have hfix : CallFix (wt_xp X) (wt_xm X) (wt_xc X) cc nL (wt_xs X) (wt_xa X) wt_GT own := ⟨hx, hb, hml, hown, hts⟩
  have hsz : ls.size = nL := by rw [hl.1, hn]
  have hroo : (wt_rm dd).frames + 1 ≤ (wt_xR X).frames ∧ 8 + (n + 11) + (wt_rm dd).locals ≤ (wt_xR X).locals := by
    have := hy.2.2
    exact ⟨by show dd + 1 ≤ _; omega, by show 8 + (n + 11) + 64 * dd ≤ _; omega⟩
  have run : va_Run (wt_xp X) (wt_xl X) (wt_xe X) (wt_xR X) (wt_xs X) (wt_xm X) (wt_xa X) (wt_xb X) (wt_xM X) (wt_xc X) H locs ce sl 0 0 (F0 (wt_xm X) pc ls st0) st (wt_Qc (wt_xw X) rt (some r) σ' H.size (Value.ref (wt_ad (wt_xw X) i) :: As).toArray) (wt_A (wt_xw X) H.size) := by
    rcases hlink with hlink | ⟨host, hlink⟩
    · exact va_runV hfix (hc H.size) ⟨callB_of k hts (wt_goodG h.1 hy.2.1) rfl rfl rfl (hts _ hini) (hts _ hlink) hy.1 hroo, hts _ hin, hts _ hsel⟩ hpv rfl hlen hsz hst.symm (lv_room hro) hd ⟨by omega, by omega⟩
    · exact va_runVN hfix (hc H.size) ⟨va_cnB (host := host) k hts (wt_goodG h.1 hy.2.1) rfl rfl rfl (hN _ hlink) (hts _ hini) hy.1 hroo, hts _ hin, hts _ hsel⟩ hpv rfl hlen hsz hst.symm (lv_room hro) hd ⟨by omega, by omega⟩
  intro T hT Y
  obtain ⟨v, st₀, t, T', L, h0, Y', hL, e1, e2, ⟨⟨hv, -, hwd⟩, hz, hk⟩, stp⟩ := run T hT Y
  have hv2 : v = some (.int r) := Outcome.returned.inj hv
  subst hv2
  rw [h0] at hz hk
  obtain ⟨j1, j2⟩ := wt_o_join rfl hod ho hS (H1 := T'.heap) (L := L) (σ := σ) (by rw [e1]; exact hz) (fun q g1 g2 => by rw [e1]; exact hk q g1 g2) hL
  obtain ⟨t2, a1, b1⟩ := kk T'.heap (locs ++ L) ls (ce + 0) (sl + 0) h1 h2 (by rw [e1]; exact hwd) j2 j1 hl T' rfl Y'
  exact ⟨t2, stp t2 a1, b1⟩
end WO1
end WTQ0
-- 60.0v.lean.txt
section WTQ1
/-! the law's own frames, and what the long holds -/
def wt_outv (o : Nat) (v : Int32) (U : State) (H : Heap) : Prop := ∃ cell : Cell, H[o]? = some cell ∧ U.isArrayOf cell .long ∧ cell.vm ≠ .unknown ∧ cell.slots.size = 1 ∧ cell.slots[0]? = some (.long v.toInt64)
theorem wt_outv.moved {o : Nat} {v : Int32} {u U : State} {H : Heap} (hvm : u.vm.Alike U.vm) (h : wt_outv o v u H) : wt_outv o v U H := by
  obtain ⟨cell, h1, h2, h3⟩ := h
  exact ⟨cell, h1, State.isArrayOf_alike hvm h2, h3⟩
theorem wt_outv.kept {o : Nat} {v : Int32} {U : State} {H H1 : Heap} (h : wt_outv o v U H) (hq : H1[o]? = H[o]?) : wt_outv o v U H1 := by
  obtain ⟨cell, h1, h2⟩ := h
  exact ⟨cell, hq.trans h1, h2⟩
theorem wt_outv.out {o : Nat} {v : Int32} {U : State} {H : Heap} (h : wt_outv o v U H) : wt_out o U H := by
  obtain ⟨cell, h1, h2, h3, h4, -⟩ := h
  exact ⟨cell, h1, h2, h3, h4⟩
theorem wt_outv.lt {o : Nat} {v : Int32} {U : State} {H : Heap} (h : wt_outv o v U H) : o < H.size := h.out.lt
def wt_Ov (X : wt_X) (o : Nat) (v : Int32) (K : Nat) (σ : wt_St) (pc : Nat) (lv : List (Option Value)) (st : List Value) : Prop :=
  ∀ (H : Heap) (locs : List Loc) (ls : Array Slot) (ce sl : Nat), ce ≤ K → sl ≤ 16 * K → wt_Wd (wt_xw X) σ H → wt_outv o v (wt_xs X) H → va_S (wt_Ao (wt_xw X) o (wt_xs X).heap.size) (wt_xs X).heap H locs → wt_lo ls (wt_xn X) lv → wt_W X H locs ce sl (F0 (wt_xm X) pc ls st)
section WOV
variable {X : wt_X} {o : Nat} {v : Int32} {cc : ByteArray} {nL : Nat} {own : String} {d Km K : Nat} {σ : wt_St} {pc : Nat} {lv : List (Option Value)} {st : List Value}
/-- what it holds may be forgotten -/
theorem wt_ov_o (k : wt_O X o K σ pc lv st) : wt_Ov X o v K σ pc lv st := fun H locs ls ce sl h1 h2 hw ho hS hl => k H locs ls ce sl h1 h2 hw ho.out hS hl
theorem wt_ov_kup {K' : Nat} (h : K ≤ K') (k : wt_Ov X o v K' σ pc lv st) : wt_Ov X o v K σ pc lv st :=
  fun H locs ls ce sl h1 h2 hw ho hS hl => k H locs ls ce sl (by omega) (by omega) hw ho hS hl
theorem wt_ov_sub {lv' : List (Option Value)} (hs : ∀ (j : Nat) (v : Value), lv'[j]? = some (some v) → lv[j]? = some (some v)) (k : wt_Ov X o v K σ pc lv' st) : wt_Ov X o v K σ pc lv st :=
  fun H locs ls ce sl h1 h2 hw ho hS hl => k H locs ls ce sl h1 h2 hw ho hS (hl.sub hs)
theorem wt_ov_wk (bs : List Bool) {lv' : List (Option Value)} (hm : wt_mask bs lv = lv') (k : wt_Ov X o v K σ pc lv' st) : wt_Ov X o v K σ pc lv st := wt_ov_sub (fun j v hj => wt_mask_sub bs lv j v (by rw [hm]; exact hj)) k
theorem wt_ov_iconst (h : wt_OkO X o cc nL own d Km) {n : Int} (v1 : Int32) (hd : decode cc pc = .ok (.iconst n, 1)) (hv : Int32.ofInt n = v1) (k : wt_Ov X o v K σ (pc + 1) lv (.int v1 :: st)) : wt_Ov X o v K σ pc lv st :=
  fun H locs ls ce sl h1 h2 hw ho hS hl => lv_iconst h.1.1 h.1.2.1 hd hv (k H locs ls ce sl h1 h2 hw ho hS hl)
theorem wt_ov_iload (h : wt_OkO X o cc nL own d Km) {i : Nat} {x : Int32} (hd : decode cc pc = .ok (.iload i, 2)) (hv : lv[i]? = some (some (.int x))) (k : wt_Ov X o v K σ (pc + 2) lv (.int x :: st)) : wt_Ov X o v K σ pc lv st :=
  fun H locs ls ce sl h1 h2 hw ho hS hl => lv_iload h.1.1 h.1.2.1 hd (hl.2.2 _ _ hv).2 (k H locs ls ce sl h1 h2 hw ho hS hl)
theorem wt_ov_iload_n (h : wt_OkO X o cc nL own d Km) {i : Fin 4} {x : Int32} (hd : decode cc pc = .ok (.iload_n i, 1)) (hv : lv[(i : Nat)]? = some (some (.int x))) (k : wt_Ov X o v K σ (pc + 1) lv (.int x :: st)) : wt_Ov X o v K σ pc lv st :=
  fun H locs ls ce sl h1 h2 hw ho hS hl => lv_iload_n h.1.1 h.1.2.1 hd rfl (hl.2.2 _ _ hv).2 (k H locs ls ce sl h1 h2 hw ho hS hl)
theorem wt_ov_aload_n (h : wt_OkO X o cc nL own d Km) {i : Fin 4} {x : Nat} (hd : decode cc pc = .ok (.aload_n i, 1)) (hv : lv[(i : Nat)]? = some (some (.ref x))) (k : wt_Ov X o v K σ (pc + 1) lv (.ref x :: st)) : wt_Ov X o v K σ pc lv st :=
  fun H locs ls ce sl h1 h2 hw ho hS hl => lv_aload_n h.1.1 h.1.2.1 hd rfl (hl.2.2 _ _ hv).2 (k H locs ls ce sl h1 h2 hw ho hS hl)
theorem wt_ov_stn {v0 : Value} (h : wt_OkO X o cc nL own d Km) {i : Nat} {n : Nat} {lv' : List (Option Value)} (hin : i < nL) (hc : v0.category = 1) (hl' : lv.set i (some v0) = lv') (k : wt_Ov X o v K σ (pc + n) lv' st)
    (step : ∀ (H : Heap) (locs : List Loc) (ls ls' : Array Slot) (ce sl : Nat), storeLocals ls i v0 = some ls' → wt_W X H locs ce sl (F0 (wt_xm X) (pc + n) ls' st) → wt_W X H locs ce sl (F0 (wt_xm X) pc ls (v0 :: st))) : wt_Ov X o v K σ pc lv (v0 :: st) := by
  intro H locs ls ce sl h1 h2 hw ho hS hl
  obtain ⟨ls', e, hl2⟩ := hl.store (i := i) (v := v0) (by rw [h.1.2.2.2.1]; exact hin) hc
  exact step H locs ls ls' ce sl e (k H locs ls' ce sl h1 h2 hw ho hS (hl' ▸ hl2))
theorem wt_ov_istore (h : wt_OkO X o cc nL own d Km) {i : Nat} {x : Int32} (lv' : List (Option Value)) (hd : decode cc pc = .ok (.istore i, 2)) (hin : i < nL) (hl' : lv.set i (some (.int x)) = lv') (k : wt_Ov X o v K σ (pc + 2) lv' st) : wt_Ov X o v K σ pc lv (.int x :: st) := by
  refine wt_ov_stn h hin rfl hl' k fun H locs ls ls' ce sl e kk => ?_
  obtain ⟨hexec, hb, -⟩ := h.1
  intro T hT Y
  obtain ⟨t, a, b⟩ := kk T hT Y
  refine ⟨t, ?_, b⟩
  jvm_step Y.here [Y.here.top, ↓top_set Y.here.top, hexec, hb, hd, e]
  exact a
theorem wt_ov_iadd (h : wt_OkO X o cc nL own d Km) {x y : Int32} (hd : decode cc pc = .ok (.iadd, 1)) (k : wt_Ov X o v K σ (pc + 1) lv (.int (x + y) :: st)) : wt_Ov X o v K σ pc lv (.int y :: .int x :: st) :=
  fun H locs ls ce sl h1 h2 hw ho hS hl => lv_iadd h.1.1 h.1.2.1 hd (k H locs ls ce sl h1 h2 hw ho hS hl)
theorem wt_ov_goto (h : wt_OkO X o cc nL own d Km) {off : Int} (tgt : Nat) (hd : decode cc pc = .ok (.goto off, 3)) (ht : (pc : Int) + off = (tgt : Int)) (k : wt_Ov X o v K σ tgt lv st) : wt_Ov X o v K σ pc lv st :=
  fun H locs ls ce sl h1 h2 hw ho hS hl => lv_goto h.1.1 h.1.2.1 hd ht (k H locs ls ce sl h1 h2 hw ho hS hl)
theorem wt_ov_icmp_eqT (h : wt_OkO X o cc nL own d Km) {x y : Int32} {off : Int} (tgt : Nat) (hd : decode cc pc = .ok (.if_icmp .eq off, 3)) (ht : (pc : Int) + off = (tgt : Int)) (he : x = y) (kt : wt_Ov X o v K σ tgt lv st) : wt_Ov X o v K σ pc lv (.int y :: .int x :: st) :=
  fun H locs ls ce sl h1 h2 hw ho hS hl => lv_icmp_eq h.1.1 h.1.2.1 hd ht (fun c => kt H locs ls ce sl h1 h2 hw ho hS hl) (fun c => absurd he c)
theorem wt_ov_sld (h : wt_OkO X o cc nL own d Km) {b L : Nat} {xs : Nat → Int32} (hX : wt_scr X o b L xs) {i : Int32} (hin : vp_in i L) (hd : decode cc pc = .ok (.iaload, 1)) (k : wt_Ov X o v K σ (pc + 1) lv (.int (xs i.toNatClampNeg) :: st)) : wt_Ov X o v K σ pc lv (.int i :: .ref b :: st) :=
  fun H locs ls ce sl h1 h2 hw ho hS hl => va_sld h.1.1 h.1.2.1 hX.1 hX.2.1 hX.2.2 hS hin hd (k H locs ls ce sl h1 h2 hw ho hS hl)
theorem wt_ov_join {w : wt_E} {sz : Nat} {H0 H H1 : Heap} {locs L : List Loc} {σ : wt_St} {U : State} (hsz : H0.size = sz) (hod : ∀ i, wt_dom w i → wt_ad w i ≠ o) (ho : wt_outv o v U H) (hS : va_S (wt_Ao w o sz) H0 H locs) (hz : H.size ≤ H1.size) (hk : ∀ q : Nat, q < H.size → ¬ wt_A w H.size q → H1[q]? = H[q]?) (hL : ∀ q ∈ L, wt_A w H.size q.base) : va_S (wt_Ao w o sz) H0 H1 (locs ++ L) ∧ wt_outv o v U H1 := by
  have hAA : ∀ q : Nat, wt_A w H.size q → wt_Ao w o sz q := fun q hq => Or.inr (hq.elim Or.inl (fun z => Or.inr (Nat.le_trans (hsz ▸ hS.1) z)))
  refine ⟨⟨Nat.le_trans hS.1 hz, fun q g1 g2 => (hk q (Nat.lt_of_lt_of_le g1 hS.1) (fun z => g2 (hAA q z))).trans (hS.2.1 q g1 g2), fun q hq => ?_⟩, ho.kept (hk o ho.lt ?_)⟩
  · rcases List.mem_append.mp hq with g | g
    · exact hS.2.2 q g
    · exact hAA _ (hL q g)
  · rintro (⟨i, hi, e⟩ | hge)
    · exact hod i hi e.symm
    · exact absurd ho.lt (Nat.not_lt.mpr hge)
theorem wt_ov_callVi (h : wt_OkO X o cc nL own d Km) {idx : Nat} {y : MethodName} {b : ByteArray} {n k dd ci nn N i : Nat} {rs : List Nat} {T : u_T} {rt : Option FieldType} (As : List Value) {st0 : List Value} {r : Int32} {σ' : wt_St} (mv : wt_MV own idx y) (hy : wt_Ya y b n rt k) (hc : wt_Ctr (wt_xl X) (wt_xw X) y b n rt dd (.ref (wt_ad (wt_xw X) i) :: As) σ (some r) σ') (hd1 : dd + 1 ≤ d) (hi : wt_dom (wt_xw X) i) (hL : wt_LAY[i]? = some (ci + 3, nn, rs)) (hcl : wt_cl[ci]? = some (y.cls, T, N)) (hlen : As.length = k) (hst : As.reverse ++ .ref (wt_ad (wt_xw X) i) :: st = st0) (hro : (st.map fun v => v.category).sum ≤ 8) (hK : K ≤ Km) (hd : decode cc pc = .ok (.invokevirtual idx, 3))
    (kk : wt_Ov X o v K σ' (pc + 3) lv (.int r :: st)) : wt_Ov X o v K σ pc lv st0 := by
  intro H locs ls ce sl h1 h2 hw ho hS hl
  obtain ⟨hlink, hin, hsel, hini⟩ := mv
  obtain ⟨⟨hx, hb, hml, hn, hown, hts, hKK, hN, r1, r2, r3, r4, hlk, -⟩, hFX, hod⟩ := id h
  have hP := hw.one hi
  unfold wt_cell at hP
  rw [wt_ce_ob hL] at hP
  have hrecv := va_recv hKK hP hcl (q0 := 0) rfl
  have hpv : PreV (wt_xs X) H y.cls (wt_ad (wt_xw X) i) (wt_PcS (wt_xw X) wt_S0 (.ref (wt_ad (wt_xw X) i) :: As) σ H.size) As := ⟨wt_blind _ wt_True_fx _ _ _, hrecv, fun U hU hW => wt_o_pre hKK hN hFX hS hw hU hW⟩
  have hfix : CallFix (wt_xp X) (wt_xm X) (wt_xc X) cc nL (wt_xs X) (wt_xa X) wt_GT own := ⟨hx, hb, hml, hown, hts⟩
  have hsz : ls.size = nL := by rw [hl.1, hn]
  have hroo : (wt_rm dd).frames + 1 ≤ (wt_xR X).frames ∧ 8 + (n + 11) + (wt_rm dd).locals ≤ (wt_xR X).locals := by
    have := hy.2.2
    exact ⟨by show dd + 1 ≤ _; omega, by show 8 + (n + 11) + 64 * dd ≤ _; omega⟩
  have run : va_Run (wt_xp X) (wt_xl X) (wt_xe X) (wt_xR X) (wt_xs X) (wt_xm X) (wt_xa X) (wt_xb X) (wt_xM X) (wt_xc X) H locs ce sl 0 0 (F0 (wt_xm X) pc ls st0) st (wt_Qc (wt_xw X) rt (some r) σ' H.size (Value.ref (wt_ad (wt_xw X) i) :: As).toArray) (wt_A (wt_xw X) H.size) := by
    rcases hlink with hlink | ⟨host, hlink⟩
    · exact va_runV hfix (hc H.size) ⟨callB_of k hts (wt_goodG h.1 hy.2.1) rfl rfl rfl (hts _ hini) (hts _ hlink) hy.1 hroo, hts _ hin, hts _ hsel⟩ hpv rfl hlen hsz hst.symm (lv_room hro) hd ⟨by omega, by omega⟩
    · exact va_runVN hfix (hc H.size) ⟨va_cnB (host := host) k hts (wt_goodG h.1 hy.2.1) rfl rfl rfl (hN _ hlink) (hts _ hini) hy.1 hroo, hts _ hin, hts _ hsel⟩ hpv rfl hlen hsz hst.symm (lv_room hro) hd ⟨by omega, by omega⟩
  intro T hT Y
  obtain ⟨v, st₀, t, T', L, h0, Y', hL, e1, e2, ⟨⟨hv, -, hwd⟩, hz, hk⟩, stp⟩ := run T hT Y
  have hv2 : v = some (.int r) := Outcome.returned.inj hv
  subst hv2
  rw [h0] at hz hk
  obtain ⟨j1, j2⟩ := wt_ov_join rfl hod ho hS (H1 := T'.heap) (L := L) (σ := σ) (by rw [e1]; exact hz) (fun q g1 g2 => by rw [e1]; exact hk q g1 g2) hL
  obtain ⟨t2, a1, b1⟩ := kk T'.heap (locs ++ L) ls (ce + 0) (sl + 0) h1 h2 (by rw [e1]; exact hwd) j2 j1 hl T' rfl Y'
  exact ⟨t2, stp t2 a1, b1⟩
/-- an int put away as a long, and known there -/
theorem wt_o_putv (h : wt_OkO X o cc nL own d Km) {x : Int32} (hd1 : decode cc pc = .ok (.i2l, 1)) (hd2 : decode cc (pc + 1) = .ok (.lastore, 1)) (k : wt_Ov X o x K σ (pc + 2) lv st) : wt_O X o K σ pc lv (.int x :: .int 0 :: .ref o :: st) := by
  intro H locs ls ce sl h1 h2 hw ho hS hl
  obtain ⟨cell, g1, g2, g3, g4⟩ := ho
  have hlt : o < H.size := (Array.getElem?_eq_some_iff.mp g1).1
  refine lv_i2l h.1.1 h.1.2.1 hd1 rfl ?_
  refine W.last (x := x.toInt64) (j := 0) (a := o) (rest := st) h.1.1 h.1.2.1 g1 g2 g3 (by rw [g4]; decide) rfl rfl hd2 fun H1 e z oq => ?_
  have hA : wt_Ao (wt_xw X) o (wt_xs X).heap.size o := Or.inl rfl
  refine k H1 _ ls ce sl h1 h2 ⟨fun i hi => (hw.1 i hi).kept (oq _ (h.2.2 i hi)), hw.2⟩ ⟨_, e, g2, g3, ?_, ?_⟩ (hS.put z oq hA) hl
  · show (cell.slots.setIfInBounds _ _).size = 1
    rw [Array.size_setIfInBounds]
    exact g4
  · show (cell.slots.setIfInBounds 0 (.long x.toInt64))[0]? = some (.long x.toInt64)
    rw [Array.getElem?_setIfInBounds_self_of_lt (by rw [g4]; decide)]
theorem wt_ov_laload (h : wt_OkO X o cc nL own d Km) (hd : decode cc pc = .ok (.laload, 1)) (k : wt_Ov X o v K σ (pc + 1) lv (.long v.toInt64 :: st)) : wt_Ov X o v K σ pc lv (.int 0 :: .ref o :: st) := by
  intro H locs ls ce sl h1 h2 hw ho hS hl
  have ho' := ho
  obtain ⟨cell, g1, g2, g3, g4, g5⟩ := ho'
  exact W.lald (j := 0) (a := o) (v := .long v.toInt64) (rest := st) h.1.1 h.1.2.1 g1 g2 g3 (by rw [g4]; decide) g5 rfl rfl hd (k H locs ls ce sl h1 h2 hw ho hS hl)
theorem wt_ov_i2l (h : wt_OkO X o cc nL own d Km) {x : Int32} (hd : decode cc pc = .ok (.i2l, 1)) (k : wt_Ov X o v K σ (pc + 1) lv (.long x.toInt64 :: st)) : wt_Ov X o v K σ pc lv (.int x :: st) :=
  fun H locs ls ce sl h1 h2 hw ho hS hl => lv_i2l h.1.1 h.1.2.1 hd rfl (k H locs ls ce sl h1 h2 hw ho hS hl)
theorem wt_ov_lcmpE (h : wt_OkO X o cc nL own d Km) {x y : Int64} (e : x = y) (hd : decode cc pc = .ok (.lcmp, 1)) (k : wt_Ov X o v K σ (pc + 1) lv (.int 0 :: st)) : wt_Ov X o v K σ pc lv (.long y :: .long x :: st) :=
  fun H locs ls ce sl h1 h2 hw ho hS hl => W.lcmp h.1.1 h.1.2.1 hd (by
    have e1 : lg_cmp x y = 0 := by rw [e]; simp [lg_cmp]
    rw [e1]
    exact k H locs ls ce sl h1 h2 hw ho hS hl)
theorem wt_ov_ifeqT (h : wt_OkO X o cc nL own d Km) {off : Int} (tgt : Nat) (hd : decode cc pc = .ok (.ifCond .eq off, 3)) (ht : (pc : Int) + off = (tgt : Int)) (k : wt_Ov X o v K σ tgt lv st) : wt_Ov X o v K σ pc lv (.int 0 :: st) :=
  fun H locs ls ce sl h1 h2 hw ho hS hl => lv_if_eq h.1.1 h.1.2.1 hd ht (fun _ => k H locs ls ce sl h1 h2 hw ho hS hl) (fun c => absurd rfl c)
theorem wt_ov_ifneF (h : wt_OkO X o cc nL own d Km) {off : Int} (tgt : Nat) (hd : decode cc pc = .ok (.ifCond .ne off, 3)) (ht : (pc : Int) + off = (tgt : Int)) (k : wt_Ov X o v K σ (pc + 3) lv st) : wt_Ov X o v K σ pc lv (.int 0 :: st) :=
  fun H locs ls ce sl h1 h2 hw ho hS hl => lv_if_ne h.1.1 h.1.2.1 hd ht (fun c => absurd rfl c) (fun _ => k H locs ls ce sl h1 h2 hw ho hS hl)
theorem wt_o_ifneT (h : wt_OkO X o cc nL own d Km) {x : Int32} {off : Int} (tgt : Nat) (hx : ¬ x = 0) (hd : decode cc pc = .ok (.ifCond .ne off, 3)) (ht : (pc : Int) + off = (tgt : Int)) (k : wt_O X o K σ tgt lv st) : wt_O X o K σ pc lv (.int x :: st) :=
  fun H locs ls ce sl h1 h2 hw ho hS hl => lv_if_ne h.1.1 h.1.2.1 hd ht (fun _ => k H locs ls ce sl h1 h2 hw ho hS hl) (fun c => absurd c hx)
end WOV
end WTQ1
-- 60.1wrap.lean.txt
section WTQ2
/-! the law's small methods: they call the class once, catch what it throws, and answer an int -/
def wt_PcW (w : wt_E) (o : Nat) (av : List Value) (σ : wt_St) (sz : Nat) : Array Value → State → Prop := va_Pc av (fun U => U.heap.size = sz ∧ wt_Wd w σ U.heap ∧ va_K (wt_wD w) wt_cl (wt_tys w) U ∧ wt_NW U ∧ wt_FX (wt_Ao w o sz) U U.heap ∧ wt_out o U U.heap ∧ wt_SN (wt_Ao w o sz) U U.heap)
def wt_QcW (w : wt_E) (o : Nat) (σ' : wt_St) (sz : Nat) : Array Value → State → Outcome → State → Prop := fun _ st oc t => (∃ r : Int32, oc = .returned (some (.int r)) ∧ wt_Wd w σ' t.heap ∧ wt_out o t t.heap) ∧ va_F (wt_Ao w o sz) st t
def wt_XF : String → State → State → Prop := fun _ _ _ => False
abbrev wt_wsW (y : MethodName) (b : ByteArray) (n : Nat) (hh : List (Nat × Nat × Nat × Nat)) : List Cond := .codeWith y b n (some .int) hh :: wt_GT
def wt_CtrW (l : Launch) (w : wt_E) (o : Nat) (y : MethodName) (b : ByteArray) (n : Nat) (hh : List (Nat × Nat × Nat × Nat)) (d mc : Nat) (av : List Value) (σ σ' : wt_St) : Prop := ∀ sz : Nat, vx_Met l y (wt_wsW y b n hh) (wt_rmX d mc) (wt_PcW w o av σ sz) (wt_QcW w o σ' sz) wt_XF mc (16 * mc) (wt_Ao w o sz)
def wt_RtW (X : wt_X) (o mc : Nat) (hh : List (Nat × Nat × Nat × Nat)) (σ' : wt_St) : Prop := (wt_xM X).sig.returnType = some .int ∧ wt_xQ X = vx_MQ (wt_xb X) (wt_QcW (wt_xw X) o σ' (wt_xs X).heap.size) wt_XF (wt_xa X) (wt_xs X) mc (16 * mc) (wt_Ao (wt_xw X) o (wt_xs X).heap.size) ∧ (wt_xc X).exceptionTable.toList = tableOf hh ∧ (wt_xl X).stackTraces = false ∧ wt_SN (wt_Ao (wt_xw X) o (wt_xs X).heap.size) (wt_xs X) (wt_xs X).heap
theorem wt_FX_nar {A B : Nat → Prop} {U : State} {H : Heap} (h : wt_FX A U H) (hq : ∀ q, B q → A q) : wt_FX B U H := wt_FX_fx.2.1 _ _ _ _ h hq
theorem wt_ctrW {l : Launch} (htr : l.stackTraces = false) {w : wt_E} {o : Nat} (hod : ∀ i, wt_dom w i → wt_ad w i ≠ o) {y : MethodName} {b : ByteArray} {n : Nat} {hh : List (Nat × Nat × Nat × Nat)} {d mc : Nat} {av : List Value} {σ σ' : wt_St} (hy : plainName y.cls = true) (hcm : Cond.codeWith y b n (some .int) hh ∈ wt_GT) (hc : av.all (fun v => v.category == 1) = true) (hle : (lg_sl av).length ≤ n) (lv : List (Option Value)) (hlv : lv = av.map some ++ List.replicate (n - av.length) none)
    (body : ∀ X : wt_X, wt_xl X = l → wt_xw X = w → wt_OkO X o b n y.cls d mc → wt_RtW X o mc hh σ' → wt_O X o 0 σ 0 lv []) : wt_CtrW l w o y b n hh d mc av σ σ' := by
  intro sz
  refine vx_ofWH (cc := b) (maxL := n) (ret := some .int) (hh := hh) hy rfl ?_
  intro p e s m args below meth c s₁ B hml hv
  obtain ⟨rfl, hsz, hw, hK, hN, hF, ho, hSN⟩ := hv
  have hts := atoms_spec (ws := wt_wsW y b n hh) B.pre
  have hown : s.vm.findClass y.cls = some m.cls := findClass_of_methodNamed B.named
  have hT := vx_table (x := y) B (hts _ (List.mem_cons_of_mem _ hcm))
  subst hsz
  have hlo := wt_args_lo (n := n) hc hle
  rw [← hlv] at hlo
  rw [lg_entry_eq]
  have hX := body ((p, l, e, (headSpec (wt_wsW y b n hh) (wt_rmX d mc)).room, s, m, av.toArray, below, meth, c), w, n, vx_MQ below (wt_QcW w o σ' s.heap.size) wt_XF av.toArray s mc (16 * mc) (wt_Ao w o s.heap.size)) rfl rfl ⟨⟨B.exec, B.bytes, hml, rfl, hown, fun z hz => hts z (List.mem_cons_of_mem _ hz), hK, hN, Nat.le_refl _, Nat.le_refl _, Nat.le_refl _, Nat.le_refl _, B.notSynchronized, wt_FX_nar hF (fun q hq => Or.inr hq)⟩, hF, hod⟩ ⟨B.returns, rfl, hT, htr, hSN⟩
  exact hX s.heap [] _ 0 0 (Nat.le_refl _) (Nat.zero_le _) hw ho va_S.rf hlo
section WO2
variable {X : wt_X} {o : Nat} {cc : ByteArray} {nL : Nat} {own : String} {d Km K : Nat} {σ : wt_St} {pc : Nat} {lv : List (Option Value)} {st : List Value}
theorem wt_o_ret {mc : Nat} {hh : List (Nat × Nat × Nat × Nat)} (h : wt_OkO X o cc nL own d Km) {x : Int32} (hR : wt_RtW X o mc hh σ) (hK : K ≤ mc) (hd : decode cc pc = .ok (.ireturn, 1)) : wt_O X o K σ pc lv [.int x] := by
  intro H locs ls ce sl h1 h2 hw ho hS hl
  obtain ⟨hr, hQ, -, -, -⟩ := hR
  show W _ _ _ _ _ _ _ _ _ _ _ _ _ _ (wt_xQ X) _
  rw [hQ]
  refine W.widen (k := mc) (n := 16 * mc) (by omega) (by omega) (vx_ret ?_)
  exact W.iret h.1.1 h.1.2.1 hr (fun t ht hW => ⟨⟨x, rfl, by rw [ht]; exact hw, by rw [ht]; exact ho.moved hW.alike⟩, hS.F ht⟩) hS.2.2 hd h.1.2.2.2.2.2.2.2.2.2.2.2.2.1
/-- what a thrown thing meets in the table: the handler at hp takes it -/
def wt_Hd (X : wt_X) (own : String) (hh : List (Nat × Nat × Nat × Nat)) (pc e hp : Nat) : Prop := ∃ (pre : List ExceptionTableEntry) (x : ExceptionTableEntry) (suf : List ExceptionTableEntry) (nm : String), tableOf hh = pre ++ x :: suf ∧ (∀ z ∈ pre, covers z pc = false ∨ (z.catchType ≠ 0 ∧ ∃ nm : String, Cond.classLink own z.catchType nm ∈ wt_GT ∧ va_Nc (wt_exn e) nm (wt_xs X))) ∧ covers x pc = true ∧ x.catchType ≠ 0 ∧ Cond.classLink own x.catchType nm ∈ wt_GT ∧ Cond.castable (wt_exn e) nm ∈ wt_NT ∧ x.handlerPc = hp
theorem wt_o_callX {hh : List (Nat × Nat × Nat × Nat)} {mc : Nat} {σ0 : wt_St} (h : wt_OkO X o cc nL own d Km) (hR : wt_RtW X o mc hh σ0) {idx : Nat} {y : MethodName} {b : ByteArray} {n k dd mc' ci nn N i : Nat} {rs : List Nat} {T : u_T} {rt : Option FieldType} (As : List Value) {st0 : List Value} {e : Nat} {r : Int32} {σ' : wt_St} (mv : wt_MV own idx y) (hml0 : Cond.methodLink own idx y ∈ wt_GT) (hy : wt_Ya y b n rt k) (hc : wt_CtrX (wt_xl X) (wt_xw X) y b n rt dd mc' (.ref (wt_ad (wt_xw X) i) :: As) σ e (some r) σ') (hd1 : dd + 1 ≤ d) (hi : wt_dom (wt_xw X) i) (hL : wt_LAY[i]? = some (ci + 3, nn, rs)) (hcl : wt_cl[ci]? = some (y.cls, T, N)) (hlen : As.length = k) (hst : As.reverse ++ .ref (wt_ad (wt_xw X) i) :: st = st0) (hro : (st.map fun v => v.category).sum ≤ 8) (hK : K + mc' ≤ Km) (hd : decode cc pc = .ok (.invokevirtual idx, 3))
    (kx : e ≠ 0 → ∃ hp, wt_Hd X own hh pc e hp ∧ ∀ q, wt_O X o (K + mc') σ' hp lv [.ref q]) (kk : e = 0 → wt_O X o (K + mc') σ' (pc + 3) lv (.int r :: st)) : wt_O X o K σ pc lv st0 := by
  intro H locs ls ce sl h1 h2 hw ho hS hl
  obtain ⟨-, hin, hsel, hini⟩ := mv
  obtain ⟨⟨hx, hb, hml, hn, hown, hts, hKK, hN, r1, r2, r3, r4, hlk, -⟩, hFX, hod⟩ := id h
  have hP := hw.one hi
  unfold wt_cell at hP
  rw [wt_ce_ob hL] at hP
  have hrecv := va_recv hKK hP hcl (q0 := 0) rfl
  have hpv : PreV (wt_xs X) H y.cls (wt_ad (wt_xw X) i) (wt_PcS (wt_xw X) wt_S0 (.ref (wt_ad (wt_xw X) i) :: As) σ H.size) As := ⟨wt_blind _ wt_True_fx _ _ _, hrecv, fun U hU hW => wt_o_pre hKK hN hFX hS hw hU hW⟩
  have hfix : CallFix (wt_xp X) (wt_xm X) (wt_xc X) cc nL (wt_xs X) (wt_xa X) wt_GT own := ⟨hx, hb, hml, hown, hts⟩
  have hsz : ls.size = nL := by rw [hl.1, hn]
  have hroo : (wt_rmX dd mc').frames + 1 ≤ (wt_xR X).frames ∧ 8 + (n + 11) + (wt_rmX dd mc').locals ≤ (wt_xR X).locals := by
    have := hy.2.2
    exact ⟨by show dd + 1 ≤ _; omega, by show 8 + (n + 11) + 64 * dd ≤ _; omega⟩
  have hrun := vx_runV hfix (hc H.size) ⟨callB_of k hts (wt_goodG h.1 hy.2.1) rfl rfl rfl (hts _ hini) (hts _ hml0) hy.1 hroo, hts _ hin, hts _ hsel⟩ hpv (g := F0 (wt_xm X) pc ls st0) (rest := st) (l := wt_xl X) (e := wt_xe X) (below := wt_xb X) (meth := wt_xM X) (locs := locs) (cells := ce) (slots := sl) rfl hlen hsz hst.symm (lv_room hro) hd ⟨by omega, by omega⟩
  intro T hT Y
  rcases hrun T hT Y with ⟨v, st₀, t, T', L, h0, Y', hL, e1, e2, ⟨he, ⟨hv, hbo, hwd⟩, hF⟩, stp⟩ | ⟨q, st₀, t, T', L, E, ce9, h0, Y', hL, e1, e2, ⟨he, hE, hwd, hF⟩, g1, g2, g3, stp⟩
  · have hv2 : v = some (.int r) := Outcome.returned.inj hv
    subst hv2
    obtain ⟨hz, hk⟩ := hF
    rw [h0] at hz hk
    obtain ⟨j1, j2⟩ := wt_o_join rfl hod ho hS (H1 := T'.heap) (L := L) (σ := σ) (by rw [e1]; exact hz) (fun q g1 g2 => by rw [e1]; exact hk q g1 g2) hL
    obtain ⟨t2, a1, b1⟩ := kk he T'.heap (locs ++ L) ls (ce + mc') (sl + 16 * mc') (by omega) (by omega) (by rw [e1]; exact hwd) j2 j1 hl T' rfl Y'
    exact ⟨t2, stp t2 a1, b1⟩
  · obtain ⟨hp, ⟨pre, x, suf, nm, t1, t2, t3, t4, t5, t6, t7⟩, kq⟩ := kx he
    obtain ⟨hz, hk⟩ := hF
    rw [h0] at hz hk
    obtain ⟨j1, j2⟩ := wt_o_join rfl hod ho hS (H1 := T'.heap) (L := L) (σ := σ) (by rw [e1]; exact hz) (fun q g1 g2 => by rw [e1]; exact hk q g1 g2) hL
    subst hE
    have hsp : (wt_xc X).exceptionTable.toList = pre ++ x :: suf := hR.2.2.1.trans t1
    have hcat : vx_W (wt_xp X) (wt_xl X) (wt_xe X) (wt_xR X) (wt_xs X) (wt_xm X) (wt_xa X) (wt_xb X) (wt_xM X) (wt_xc X) T'.heap (locs ++ L) (ce + mc') (sl + 16 * mc') (wt_xQ X) (F0 (wt_xm X) pc ls st) q := by
      refine vx_catch hown pre x suf hsp (fun z hz => ?_) t3 t4 (hts _ t5) (wt_NWn hN t6) (by rw [e1]; exact g1) g2 g3 ?_
      · rcases t2 z hz with a | ⟨a1, nm2, a2, a3⟩
        · exact Or.inl a
        · exact Or.inr ⟨a1, nm2, hts _ a2, a3⟩
      · rw [t7]
        exact kq q T'.heap (locs ++ L) ls (ce + mc') (sl + 16 * mc') (by omega) (by omega) (by rw [e1]; exact hwd) j2 j1 hl
    obtain ⟨t9, a1, b1⟩ := hcat T' rfl Y'
    exact ⟨t9, stp.trans a1, b1⟩
/-! the law calls one of them -/
theorem wt_blindW (w : wt_E) (o : Nat) (av : List Value) (σ : wt_St) (sz : Nat) : FrameBlind (wt_PcW w o av σ sz) := fun a U g mk q => by
  obtain ⟨q0, q1, qP, qK, qN, qF, qo, qS⟩ := q
  exact ⟨q0, q1, qP, va_K.moved (u := U) (U := U.calling g mk a) (Vm.Alike.refl U.vm) qK, wt_NW.same (u := U) (U := U.calling g mk a) rfl qN, wt_FX_fx.2.2.2 _ U (U.calling g mk a) _ rfl qF, wt_out.moved (u := U) (U := U.calling g mk a) (Vm.Alike.refl U.vm) qo, wt_SN_fx.2.2.2 _ U (U.calling g mk a) _ rfl qS⟩
theorem wt_o_callW (h : wt_OkO X o cc nL own d Km) (hSN : wt_SN (wt_Ao (wt_xw X) o (wt_xs X).heap.size) (wt_xs X) (wt_xs X).heap) {idx : Nat} {y : MethodName} {b : ByteArray} {n k dd mc : Nat} {hh : List (Nat × Nat × Nat × Nat)} (As : List Value) {st0 : List Value} {σ' : wt_St} (hml0 : Cond.methodLink own idx y ∈ wt_GT) (hstt : Cond.static y ∈ wt_GT) (hini : Cond.initialized y.cls ∈ wt_GT) (hcm : Cond.codeWith y b n (some .int) hh ∈ wt_GT) (hyd : y.cls ≠ "java/lang/invoke/MethodHandle" ∧ y.cls ≠ "java/lang/invoke/VarHandle" ∧ (parseMethodDescriptor y.desc).map (fun d => d.parameters.length) = some k) (hn40 : n ≤ 40) (hc : wt_CtrW (wt_xl X) (wt_xw X) o y b n hh dd mc As σ σ') (hd1 : dd + 1 ≤ d) (hlen : As.length = k) (hst : As.reverse ++ st = st0) (hro : (st.map fun v => v.category).sum ≤ 8) (hK : K + mc ≤ Km) (hd : decode cc pc = .ok (.invokestatic idx, 3))
    (kk : ∀ r : Int32, wt_O X o (K + mc) σ' (pc + 3) lv (.int r :: st)) : wt_O X o K σ pc lv st0 := by
  intro H locs ls ce sl h1 h2 hw ho hS hl
  obtain ⟨⟨hx, hb, hml, hn, hown, hts, hKK, hN, r1, r2, r3, r4, hlk, -⟩, hFX, hod⟩ := id h
  have hAA : ∀ q : Nat, wt_Ao (wt_xw X) o H.size q → wt_Ao (wt_xw X) o (wt_xs X).heap.size q := fun q hq => hq.elim Or.inl (fun z => Or.inr (z.elim Or.inl (fun z => Or.inr (Nat.le_trans hS.1 z))))
  have hps : PreS (wt_xs X) H (wt_PcW (wt_xw X) o As σ H.size) As := ⟨wt_blindW _ _ _ _ _, fun U hU hW => by
    subst hU
    exact ⟨rfl, rfl, hw, va_K.moved hW.alike hKK, hN.warm hW, wt_FX_fx.2.2.1 _ _ _ _ hW (wt_FX_fx.2.1 _ _ _ _ (wt_FX_fx.1 _ _ _ _ hFX hS.2.1) hAA), ho.moved hW.alike, wt_SN_fx.2.2.1 (wt_Ao (wt_xw X) o (wt_xs X).heap.size) _ _ (wt_xs X).heap hW hSN⟩⟩
  have hfix : CallFix (wt_xp X) (wt_xm X) (wt_xc X) cc nL (wt_xs X) (wt_xa X) wt_GT own := ⟨hx, hb, hml, hown, hts⟩
  have hsz : ls.size = nL := by rw [hl.1, hn]
  have hroo : (wt_rmX dd mc).frames + 1 ≤ (wt_xR X).frames ∧ 8 + (n + 11) + (wt_rmX dd mc).locals ≤ (wt_xR X).locals := ⟨by show dd + 1 ≤ _; omega, by show 8 + (n + 11) + 64 * dd ≤ _; omega⟩
  have hgd : GoodIn wt_GT (va_wsS own idx y (wt_wsW y b n hh)) := fun z hz => by
    have hm : z ∈ wt_GT := by
      rcases List.mem_append.mp hz with e | e
      · simp only [List.mem_cons, List.not_mem_nil, or_false] at e
        rcases e with rfl | rfl | rfl
        · exact hml0
        · exact hstt
        · exact hini
      · rcases List.mem_cons.mp e with e | e
        · rw [e]; exact hcm
        · exact e
    exact ⟨hm, good_of_word (List.mem_filter.mp hm).2⟩
  have hrun := vx_runSX hfix (hc H.size) (vx_cwSW k hts hgd rfl rfl rfl hyd hroo) hps (g := F0 (wt_xm X) pc ls st0) (rest := st) (l := wt_xl X) (e := wt_xe X) (below := wt_xb X) (meth := wt_xM X) (locs := locs) (cells := ce) (slots := sl) rfl hlen hsz hst.symm (lv_room hro) hd ⟨by omega, by omega⟩
  intro T hT Y
  rcases hrun T hT Y with ⟨v, st₀, t, T', L, h0, Y', hL, e1, e2, ⟨⟨r, hv, hwd, ho2⟩, hz, hk⟩, stp⟩ | ⟨q, st₀, t, T', L, E, ce9, h0, Y', hL, e1, e2, hF, -⟩
  · have hv2 : v = some (.int r) := Outcome.returned.inj hv
    subst hv2
    rw [h0] at hz hk
    have hal : (wt_xs X).vm.Alike t.vm := by rw [← e2]; exact Y'.warmed.alike
    obtain ⟨t2, a1, b1⟩ := kk r T'.heap (locs ++ L) ls (ce + mc) (sl + 16 * mc) (by omega) (by omega) (by rw [e1]; exact hwd) (by rw [e1]; exact ho2.moved hal.symm) ⟨Nat.le_trans hS.1 (by rw [e1]; exact hz), fun q g1 g2 => by
        rw [e1, hk q (Nat.lt_of_lt_of_le g1 hS.1) (fun z => g2 (hAA q z))]
        exact hS.2.1 q g1 g2, fun q hq => by
        rcases List.mem_append.mp hq with g | g
        · exact hS.2.2 q g
        · exact hAA _ (hL q g)⟩ hl T' rfl Y'
    exact ⟨t2, stp t2 a1, b1⟩
  · exact hF.elim
end WO2
end WTQ2
-- 60.1wrapv.lean.txt
section WTQ3
/-! the law's small methods, with what they answer and what they put away -/
def wt_QcV (w : wt_E) (o : Nat) (σ' : wt_St) (r0 v : Int32) (sz : Nat) : Array Value → State → Outcome → State → Prop := fun _ st oc t => (oc = .returned (some (.int r0)) ∧ wt_Wd w σ' t.heap ∧ wt_out o t t.heap ∧ (r0 = 0 → wt_outv o v t t.heap)) ∧ va_F (wt_Ao w o sz) st t
def wt_CtrV (l : Launch) (w : wt_E) (o : Nat) (y : MethodName) (b : ByteArray) (n : Nat) (hh : List (Nat × Nat × Nat × Nat)) (d mc : Nat) (av : List Value) (σ σ' : wt_St) (r0 v : Int32) : Prop := ∀ sz : Nat, vx_Met l y (wt_wsW y b n hh) (wt_rmX d mc) (wt_PcW w o av σ sz) (wt_QcV w o σ' r0 v sz) wt_XF mc (16 * mc) (wt_Ao w o sz)
def wt_RtV (X : wt_X) (o mc : Nat) (hh : List (Nat × Nat × Nat × Nat)) (σ' : wt_St) (r0 v : Int32) : Prop := (wt_xM X).sig.returnType = some .int ∧ wt_xQ X = vx_MQ (wt_xb X) (wt_QcV (wt_xw X) o σ' r0 v (wt_xs X).heap.size) wt_XF (wt_xa X) (wt_xs X) mc (16 * mc) (wt_Ao (wt_xw X) o (wt_xs X).heap.size) ∧ (wt_xc X).exceptionTable.toList = tableOf hh ∧ (wt_xl X).stackTraces = false ∧ wt_SN (wt_Ao (wt_xw X) o (wt_xs X).heap.size) (wt_xs X) (wt_xs X).heap
theorem wt_ctrV {l : Launch} (htr : l.stackTraces = false) {w : wt_E} {o : Nat} (hod : ∀ i, wt_dom w i → wt_ad w i ≠ o) {y : MethodName} {b : ByteArray} {n : Nat} {hh : List (Nat × Nat × Nat × Nat)} {d mc : Nat} {av : List Value} {σ σ' : wt_St} {r0 v : Int32} (hy : plainName y.cls = true) (hcm : Cond.codeWith y b n (some .int) hh ∈ wt_GT) (hc : av.all (fun v => v.category == 1) = true) (hle : (lg_sl av).length ≤ n) (lv : List (Option Value)) (hlv : lv = av.map some ++ List.replicate (n - av.length) none)
    (body : ∀ X : wt_X, wt_xl X = l → wt_xw X = w → wt_OkO X o b n y.cls d mc → wt_RtV X o mc hh σ' r0 v → wt_O X o 0 σ 0 lv []) : wt_CtrV l w o y b n hh d mc av σ σ' r0 v := by
  intro sz
  refine vx_ofWH (cc := b) (maxL := n) (ret := some .int) (hh := hh) hy rfl ?_
  intro p e s m args below meth c s₁ B hml hv
  obtain ⟨rfl, hsz, hw, hK, hN, hF, ho, hSN⟩ := hv
  have hts := atoms_spec (ws := wt_wsW y b n hh) B.pre
  have hown : s.vm.findClass y.cls = some m.cls := findClass_of_methodNamed B.named
  have hT := vx_table (x := y) B (hts _ (List.mem_cons_of_mem _ hcm))
  subst hsz
  have hlo := wt_args_lo (n := n) hc hle
  rw [← hlv] at hlo
  rw [lg_entry_eq]
  have hX := body ((p, l, e, (headSpec (wt_wsW y b n hh) (wt_rmX d mc)).room, s, m, av.toArray, below, meth, c), w, n, vx_MQ below (wt_QcV w o σ' r0 v s.heap.size) wt_XF av.toArray s mc (16 * mc) (wt_Ao w o s.heap.size)) rfl rfl ⟨⟨B.exec, B.bytes, hml, rfl, hown, fun z hz => hts z (List.mem_cons_of_mem _ hz), hK, hN, Nat.le_refl _, Nat.le_refl _, Nat.le_refl _, Nat.le_refl _, B.notSynchronized, wt_FX_nar hF (fun q hq => Or.inr hq)⟩, hF, hod⟩ ⟨B.returns, rfl, hT, htr, hSN⟩
  exact hX s.heap [] _ 0 0 (Nat.le_refl _) (Nat.zero_le _) hw ho va_S.rf hlo
section WO2V
variable {X : wt_X} {o : Nat} {cc : ByteArray} {nL : Nat} {own : String} {d Km K : Nat} {σ : wt_St} {pc : Nat} {lv : List (Option Value)} {st : List Value}
theorem wt_o_retV {mc : Nat} {hh : List (Nat × Nat × Nat × Nat)} (h : wt_OkO X o cc nL own d Km) {x v : Int32} (hx : ¬ x = 0) (hR : wt_RtV X o mc hh σ x v) (hK : K ≤ mc) (hd : decode cc pc = .ok (.ireturn, 1)) : wt_O X o K σ pc lv [.int x] := by
  intro H locs ls ce sl h1 h2 hw ho hS hl
  obtain ⟨hr, hQ, -, -, -⟩ := hR
  show W _ _ _ _ _ _ _ _ _ _ _ _ _ _ (wt_xQ X) _
  rw [hQ]
  refine W.widen (k := mc) (n := 16 * mc) (by omega) (by omega) (vx_ret ?_)
  exact W.iret h.1.1 h.1.2.1 hr (fun t ht hW => ⟨⟨rfl, by rw [ht]; exact hw, by rw [ht]; exact ho.moved hW.alike, fun c => absurd c hx⟩, hS.F ht⟩) hS.2.2 hd h.1.2.2.2.2.2.2.2.2.2.2.2.2.1
theorem wt_ov_retV {mc : Nat} {hh : List (Nat × Nat × Nat × Nat)} (h : wt_OkO X o cc nL own d Km) {v : Int32} (hR : wt_RtV X o mc hh σ 0 v) (hK : K ≤ mc) (hd : decode cc pc = .ok (.ireturn, 1)) : wt_Ov X o v K σ pc lv [.int 0] := by
  intro H locs ls ce sl h1 h2 hw ho hS hl
  obtain ⟨hr, hQ, -, -, -⟩ := hR
  show W _ _ _ _ _ _ _ _ _ _ _ _ _ _ (wt_xQ X) _
  rw [hQ]
  refine W.widen (k := mc) (n := 16 * mc) (by omega) (by omega) (vx_ret ?_)
  exact W.iret h.1.1 h.1.2.1 hr (fun t ht hW => ⟨⟨rfl, by rw [ht]; exact hw, by rw [ht]; exact ho.out.moved hW.alike, fun _ => by rw [ht]; exact ho.moved hW.alike⟩, hS.F ht⟩) hS.2.2 hd h.1.2.2.2.2.2.2.2.2.2.2.2.2.1
theorem wt_o_callXV {hh : List (Nat × Nat × Nat × Nat)} {mc : Nat} {σ0 : wt_St} (h : wt_OkO X o cc nL own d Km) {r0 v : Int32} (hR : wt_RtV X o mc hh σ0 r0 v) {idx : Nat} {y : MethodName} {b : ByteArray} {n k dd mc' ci nn N i : Nat} {rs : List Nat} {T : u_T} {rt : Option FieldType} (As : List Value) {st0 : List Value} {e : Nat} {r : Int32} {σ' : wt_St} (mv : wt_MV own idx y) (hml0 : Cond.methodLink own idx y ∈ wt_GT) (hy : wt_Ya y b n rt k) (hc : wt_CtrX (wt_xl X) (wt_xw X) y b n rt dd mc' (.ref (wt_ad (wt_xw X) i) :: As) σ e (some r) σ') (hd1 : dd + 1 ≤ d) (hi : wt_dom (wt_xw X) i) (hL : wt_LAY[i]? = some (ci + 3, nn, rs)) (hcl : wt_cl[ci]? = some (y.cls, T, N)) (hlen : As.length = k) (hst : As.reverse ++ .ref (wt_ad (wt_xw X) i) :: st = st0) (hro : (st.map fun v => v.category).sum ≤ 8) (hK : K + mc' ≤ Km) (hd : decode cc pc = .ok (.invokevirtual idx, 3))
    (kx : e ≠ 0 → ∃ hp, wt_Hd X own hh pc e hp ∧ ∀ q, wt_O X o (K + mc') σ' hp lv [.ref q]) (kk : e = 0 → wt_O X o (K + mc') σ' (pc + 3) lv (.int r :: st)) : wt_O X o K σ pc lv st0 := by
  intro H locs ls ce sl h1 h2 hw ho hS hl
  obtain ⟨-, hin, hsel, hini⟩ := mv
  obtain ⟨⟨hx, hb, hml, hn, hown, hts, hKK, hN, r1, r2, r3, r4, hlk, -⟩, hFX, hod⟩ := id h
  have hP := hw.one hi
  unfold wt_cell at hP
  rw [wt_ce_ob hL] at hP
  have hrecv := va_recv hKK hP hcl (q0 := 0) rfl
  have hpv : PreV (wt_xs X) H y.cls (wt_ad (wt_xw X) i) (wt_PcS (wt_xw X) wt_S0 (.ref (wt_ad (wt_xw X) i) :: As) σ H.size) As := ⟨wt_blind _ wt_True_fx _ _ _, hrecv, fun U hU hW => wt_o_pre hKK hN hFX hS hw hU hW⟩
  have hfix : CallFix (wt_xp X) (wt_xm X) (wt_xc X) cc nL (wt_xs X) (wt_xa X) wt_GT own := ⟨hx, hb, hml, hown, hts⟩
  have hsz : ls.size = nL := by rw [hl.1, hn]
  have hroo : (wt_rmX dd mc').frames + 1 ≤ (wt_xR X).frames ∧ 8 + (n + 11) + (wt_rmX dd mc').locals ≤ (wt_xR X).locals := by
    have := hy.2.2
    exact ⟨by show dd + 1 ≤ _; omega, by show 8 + (n + 11) + 64 * dd ≤ _; omega⟩
  have hrun := vx_runV hfix (hc H.size) ⟨callB_of k hts (wt_goodG h.1 hy.2.1) rfl rfl rfl (hts _ hini) (hts _ hml0) hy.1 hroo, hts _ hin, hts _ hsel⟩ hpv (g := F0 (wt_xm X) pc ls st0) (rest := st) (l := wt_xl X) (e := wt_xe X) (below := wt_xb X) (meth := wt_xM X) (locs := locs) (cells := ce) (slots := sl) rfl hlen hsz hst.symm (lv_room hro) hd ⟨by omega, by omega⟩
  intro T hT Y
  rcases hrun T hT Y with ⟨v9, st₀, t, T', L, h0, Y', hL, e1, e2, ⟨he, ⟨hv, hbo, hwd⟩, hF⟩, stp⟩ | ⟨q, st₀, t, T', L, E, ce9, h0, Y', hL, e1, e2, ⟨he, hE, hwd, hF⟩, g1, g2, g3, stp⟩
  · have hv2 : v9 = some (.int r) := Outcome.returned.inj hv
    subst hv2
    obtain ⟨hz, hk⟩ := hF
    rw [h0] at hz hk
    obtain ⟨j1, j2⟩ := wt_o_join rfl hod ho hS (H1 := T'.heap) (L := L) (σ := σ) (by rw [e1]; exact hz) (fun q g1 g2 => by rw [e1]; exact hk q g1 g2) hL
    obtain ⟨t2, a1, b1⟩ := kk he T'.heap (locs ++ L) ls (ce + mc') (sl + 16 * mc') (by omega) (by omega) (by rw [e1]; exact hwd) j2 j1 hl T' rfl Y'
    exact ⟨t2, stp t2 a1, b1⟩
  · obtain ⟨hp, ⟨pre, x, suf, nm, t1, t2, t3, t4, t5, t6, t7⟩, kq⟩ := kx he
    obtain ⟨hz, hk⟩ := hF
    rw [h0] at hz hk
    obtain ⟨j1, j2⟩ := wt_o_join rfl hod ho hS (H1 := T'.heap) (L := L) (σ := σ) (by rw [e1]; exact hz) (fun q g1 g2 => by rw [e1]; exact hk q g1 g2) hL
    subst hE
    have hsp : (wt_xc X).exceptionTable.toList = pre ++ x :: suf := hR.2.2.1.trans t1
    have hcat : vx_W (wt_xp X) (wt_xl X) (wt_xe X) (wt_xR X) (wt_xs X) (wt_xm X) (wt_xa X) (wt_xb X) (wt_xM X) (wt_xc X) T'.heap (locs ++ L) (ce + mc') (sl + 16 * mc') (wt_xQ X) (F0 (wt_xm X) pc ls st) q := by
      refine vx_catch hown pre x suf hsp (fun z hz => ?_) t3 t4 (hts _ t5) (wt_NWn hN t6) (by rw [e1]; exact g1) g2 g3 ?_
      · rcases t2 z hz with a | ⟨a1, nm2, a2, a3⟩
        · exact Or.inl a
        · exact Or.inr ⟨a1, nm2, hts _ a2, a3⟩
      · rw [t7]
        exact kq q T'.heap (locs ++ L) ls (ce + mc') (sl + 16 * mc') (by omega) (by omega) (by rw [e1]; exact hwd) j2 j1 hl
    obtain ⟨t9, a1, b1⟩ := hcat T' rfl Y'
    exact ⟨t9, stp.trans a1, b1⟩
theorem wt_o_callWV (h : wt_OkO X o cc nL own d Km) (hSN : wt_SN (wt_Ao (wt_xw X) o (wt_xs X).heap.size) (wt_xs X) (wt_xs X).heap) {idx : Nat} {y : MethodName} {b : ByteArray} {n k dd mc : Nat} {hh : List (Nat × Nat × Nat × Nat)} (As : List Value) {st0 : List Value} {σ' : wt_St} {r0 v : Int32} (hml0 : Cond.methodLink own idx y ∈ wt_GT) (hstt : Cond.static y ∈ wt_GT) (hini : Cond.initialized y.cls ∈ wt_GT) (hcm : Cond.codeWith y b n (some .int) hh ∈ wt_GT) (hyd : y.cls ≠ "java/lang/invoke/MethodHandle" ∧ y.cls ≠ "java/lang/invoke/VarHandle" ∧ (parseMethodDescriptor y.desc).map (fun d => d.parameters.length) = some k) (hn40 : n ≤ 40) (hc : wt_CtrV (wt_xl X) (wt_xw X) o y b n hh dd mc As σ σ' r0 v) (hd1 : dd + 1 ≤ d) (hlen : As.length = k) (hst : As.reverse ++ st = st0) (hro : (st.map fun v => v.category).sum ≤ 8) (hK : K + mc ≤ Km) (hd : decode cc pc = .ok (.invokestatic idx, 3))
    (k0 : ¬ r0 = 0 → wt_O X o (K + mc) σ' (pc + 3) lv (.int r0 :: st)) (kv : r0 = 0 → wt_Ov X o v (K + mc) σ' (pc + 3) lv (.int r0 :: st)) : wt_O X o K σ pc lv st0 := by
  intro H locs ls ce sl h1 h2 hw ho hS hl
  obtain ⟨⟨hx, hb, hml, hn, hown, hts, hKK, hN, r1, r2, r3, r4, hlk, -⟩, hFX, hod⟩ := id h
  have hAA : ∀ q : Nat, wt_Ao (wt_xw X) o H.size q → wt_Ao (wt_xw X) o (wt_xs X).heap.size q := fun q hq => hq.elim Or.inl (fun z => Or.inr (z.elim Or.inl (fun z => Or.inr (Nat.le_trans hS.1 z))))
  have hps : PreS (wt_xs X) H (wt_PcW (wt_xw X) o As σ H.size) As := ⟨wt_blindW _ _ _ _ _, fun U hU hW => by
    subst hU
    exact ⟨rfl, rfl, hw, va_K.moved hW.alike hKK, hN.warm hW, wt_FX_fx.2.2.1 _ _ _ _ hW (wt_FX_fx.2.1 _ _ _ _ (wt_FX_fx.1 _ _ _ _ hFX hS.2.1) hAA), ho.moved hW.alike, wt_SN_fx.2.2.1 (wt_Ao (wt_xw X) o (wt_xs X).heap.size) _ _ (wt_xs X).heap hW hSN⟩⟩
  have hfix : CallFix (wt_xp X) (wt_xm X) (wt_xc X) cc nL (wt_xs X) (wt_xa X) wt_GT own := ⟨hx, hb, hml, hown, hts⟩
  have hsz : ls.size = nL := by rw [hl.1, hn]
  have hroo : (wt_rmX dd mc).frames + 1 ≤ (wt_xR X).frames ∧ 8 + (n + 11) + (wt_rmX dd mc).locals ≤ (wt_xR X).locals := ⟨by show dd + 1 ≤ _; omega, by show 8 + (n + 11) + 64 * dd ≤ _; omega⟩
  have hgd : GoodIn wt_GT (va_wsS own idx y (wt_wsW y b n hh)) := fun z hz => by
    have hm : z ∈ wt_GT := by
      rcases List.mem_append.mp hz with e | e
      · simp only [List.mem_cons, List.not_mem_nil, or_false] at e
        rcases e with rfl | rfl | rfl
        · exact hml0
        · exact hstt
        · exact hini
      · rcases List.mem_cons.mp e with e | e
        · rw [e]; exact hcm
        · exact e
    exact ⟨hm, good_of_word (List.mem_filter.mp hm).2⟩
  have hrun := vx_runSX hfix (hc H.size) (vx_cwSW k hts hgd rfl rfl rfl hyd hroo) hps (g := F0 (wt_xm X) pc ls st0) (rest := st) (l := wt_xl X) (e := wt_xe X) (below := wt_xb X) (meth := wt_xM X) (locs := locs) (cells := ce) (slots := sl) rfl hlen hsz hst.symm (lv_room hro) hd ⟨by omega, by omega⟩
  intro T hT Y
  rcases hrun T hT Y with ⟨v9, st₀, t, T', L, h0, Y', hL, e1, e2, ⟨⟨hv, hwd, ho2, hov⟩, hz, hk⟩, stp⟩ | ⟨q, st₀, t, T', L, E, ce9, h0, Y', hL, e1, e2, hF, -⟩
  · have hv2 : v9 = some (.int r0) := Outcome.returned.inj hv
    subst hv2
    rw [h0] at hz hk
    have hal : (wt_xs X).vm.Alike t.vm := by rw [← e2]; exact Y'.warmed.alike
    by_cases hr0 : r0 = 0
    · obtain ⟨t2, a1, b1⟩ := kv hr0 T'.heap (locs ++ L) ls (ce + mc) (sl + 16 * mc) (by omega) (by omega) (by rw [e1]; exact hwd) (by rw [e1]; exact (hov hr0).moved hal.symm) ⟨Nat.le_trans hS.1 (by rw [e1]; exact hz), fun q g1 g2 => by
          rw [e1, hk q (Nat.lt_of_lt_of_le g1 hS.1) (fun z => g2 (hAA q z))]
          exact hS.2.1 q g1 g2, fun q hq => by
          rcases List.mem_append.mp hq with g | g
          · exact hS.2.2 q g
          · exact hAA _ (hL q g)⟩ hl T' rfl Y'
      exact ⟨t2, stp t2 a1, b1⟩
    · obtain ⟨t2, a1, b1⟩ := k0 hr0 T'.heap (locs ++ L) ls (ce + mc) (sl + 16 * mc) (by omega) (by omega) (by rw [e1]; exact hwd) (by rw [e1]; exact ho2.moved hal.symm) ⟨Nat.le_trans hS.1 (by rw [e1]; exact hz), fun q g1 g2 => by
          rw [e1, hk q (Nat.lt_of_lt_of_le g1 hS.1) (fun z => g2 (hAA q z))]
          exact hS.2.1 q g1 g2, fun q hq => by
          rcases List.mem_append.mp hq with g | g
          · exact hS.2.2 q g
          · exact hAA _ (hL q g)⟩ hl T' rfl Y'
      exact ⟨t2, stp t2 a1, b1⟩
  · exact hF.elim
end WO2V
end WTQ3
