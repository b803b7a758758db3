/-! The world of numbers: what the class's and the reference's cells hold, by ids; a judgement wt_V of a method's rows over it, and a row an instruction. -/
abbrev wt_St : Type := (Nat → Nat → Int32) × (Nat → Nat → Int32)
def wt_gf (σ : wt_St) (i k : Nat) : Int32 := σ.1 i k
def wt_ga (σ : wt_St) (i j : Nat) : Int32 := σ.2 i j
def wt_sf (σ : wt_St) (i k : Nat) (v : Int32) : wt_St := (fun i' k' => if i' = i ∧ k' = k then v else σ.1 i' k', σ.2)
def wt_sa (σ : wt_St) (i j : Nat) (v : Int32) : wt_St := (σ.1, fun i' j' => if i' = i ∧ j' = j then v else σ.2 i' j')
theorem wt_gf_sf (σ : wt_St) (i k i' k' : Nat) (v : Int32) : wt_gf (wt_sf σ i k v) i' k' = if i' = i ∧ k' = k then v else wt_gf σ i' k' := rfl
theorem wt_ga_sa (σ : wt_St) (i k i' k' : Nat) (v : Int32) : wt_ga (wt_sa σ i k v) i' k' = if i' = i ∧ k' = k then v else wt_ga σ i' k' := rfl
theorem wt_gf_sa (σ : wt_St) (i k i' k' : Nat) (v : Int32) : wt_gf (wt_sa σ i k v) i' k' = wt_gf σ i' k' := rfl
theorem wt_ga_sf (σ : wt_St) (i k i' k' : Nat) (v : Int32) : wt_ga (wt_sf σ i k v) i' k' = wt_ga σ i' k' := rfl
def wt_fv (ad : Nat → Nat) (σ : wt_St) (i k r : Nat) : Value := if r = 0 then .int (wt_gf σ i k) else .ref (ad (r - 1))
def wt_ce (cI cII cS : ClassId) (ad : Nat → Nat) (σ : wt_St) (i : Nat) : va_E := match wt_LAY[i]? with
  | some (0, n, _) => .inl (cI, n, .inl (wt_ga σ i))
  | some (1, n, rs) => .inl (cII, n, .inr (.inr (.inr (.inr (fun j => if j < n then some (ad (rs.getD 0 0 + j)) else none)))))
  | some (2, n, rs) => .inl (cS, n, .inr (.inr (.inr (.inr (fun j => if j < n then some (ad (rs.getD 0 0 + rs.getD 1 0 * j)) else none)))))
  | some (k + 3, _, rs) => .inr (k, (List.range rs.length).map (fun q => wt_fv ad σ i q (rs.getD q 0)))
  | none => .inl (cI, 0, .inl (fun _ => 0))
/-- the world's fixed things: the classes' numbers, the array classes, the addresses, which ids are there -/
abbrev wt_E : Type := va_G × ClassId × ClassId × ClassId × (Nat → Nat) × (Nat → Prop)
abbrev wt_wD (w : wt_E) : va_G := w.1
abbrev wt_wI (w : wt_E) : ClassId := w.2.1
abbrev wt_wJ (w : wt_E) : ClassId := w.2.2.1
abbrev wt_wS (w : wt_E) : ClassId := w.2.2.2.1
abbrev wt_ad (w : wt_E) : Nat → Nat := w.2.2.2.2.1
abbrev wt_dom (w : wt_E) : Nat → Prop := w.2.2.2.2.2
abbrev wt_cell (w : wt_E) (σ : wt_St) (i : Nat) : va_E := wt_ce (wt_wI w) (wt_wJ w) (wt_wS w) (wt_ad w) σ i
abbrev wt_tys (w : wt_E) : List (ClassId × FieldType) := [(wt_wI w, .int), (wt_wJ w, .array .int), (wt_wS w, .object "WornType$State")]
def wt_Wd (w : wt_E) (σ : wt_St) (H : Heap) : Prop := (∀ i, wt_dom w i → va_at (wt_wD w) wt_cl (wt_ad w i, wt_cell w σ i) H) ∧ ∀ i j, wt_dom w i → wt_dom w j → wt_ad w i = wt_ad w j → i = j
def wt_A (w : wt_E) (sz : Nat) : Nat → Prop := fun q => (∃ i, wt_dom w i ∧ q = wt_ad w i) ∨ sz ≤ q
theorem wt_Wd.one {w : wt_E} {σ : wt_St} {H : Heap} (h : wt_Wd w σ H) {i : Nat} (hi : wt_dom w i) : va_P (wt_wD w) wt_cl [(wt_ad w i, wt_cell w σ i)] H := fun k q hk => by
  have h0 : k = 0 := by
    have := (List.getElem?_eq_some_iff.mp hk).1
    simp at this
    exact this
  subst h0
  cases hk
  exact h.1 i hi
/-- one cell is another one: all else stays -/
theorem wt_Wd.put {w : wt_E} {σ σ' : wt_St} {H H1 : Heap} (h : wt_Wd w σ H) {i : Nat} (hi : wt_dom w i) (hc : va_at (wt_wD w) wt_cl (wt_ad w i, wt_cell w σ' i) H1) (ho : ∀ j, j ≠ i → wt_cell w σ' j = wt_cell w σ j) (hq : ∀ q, q ≠ wt_ad w i → H1[q]? = H[q]?) : wt_Wd w σ' H1 := by
  refine ⟨fun j hj => ?_, h.2⟩
  by_cases e : j = i
  · subst e
    exact hc
  · rw [ho j e]
    exact (h.1 j hj).kept (hq _ (fun z => e (h.2 j i hj hi z)))
theorem wt_ce_arr {cI cII cS : ClassId} {ad : Nat → Nat} {σ : wt_St} {i n : Nat} {rs : List Nat} (h : wt_LAY[i]? = some (0, n, rs)) : wt_ce cI cII cS ad σ i = .inl (cI, n, .inl (wt_ga σ i)) := by
  unfold wt_ce
  rw [h]
theorem wt_ce_gr {cI cII cS : ClassId} {ad : Nat → Nat} {σ : wt_St} {i n : Nat} {rs : List Nat} (h : wt_LAY[i]? = some (1, n, rs)) : wt_ce cI cII cS ad σ i = .inl (cII, n, .inr (.inr (.inr (.inr (fun j => if j < n then some (ad (rs.getD 0 0 + j)) else none))))) := by
  unfold wt_ce
  rw [h]
theorem wt_ce_st {cI cII cS : ClassId} {ad : Nat → Nat} {σ : wt_St} {i n : Nat} {rs : List Nat} (h : wt_LAY[i]? = some (2, n, rs)) : wt_ce cI cII cS ad σ i = .inl (cS, n, .inr (.inr (.inr (.inr (fun j => if j < n then some (ad (rs.getD 0 0 + rs.getD 1 0 * j)) else none))))) := by
  unfold wt_ce
  rw [h]
theorem wt_ce_ob {cI cII cS : ClassId} {ad : Nat → Nat} {σ : wt_St} {i n k : Nat} {rs : List Nat} (h : wt_LAY[i]? = some (k + 3, n, rs)) : wt_ce cI cII cS ad σ i = .inr (k, (List.range rs.length).map (fun q => wt_fv ad σ i q (rs.getD q 0))) := by
  unfold wt_ce
  rw [h]
/-- a field's or a place's change is seen in its own cell alone -/
theorem wt_ce_sf {cI cII cS : ClassId} {ad : Nat → Nat} {σ : wt_St} {i k j : Nat} {v : Int32} (h : j ≠ i) : wt_ce cI cII cS ad (wt_sf σ i k v) j = wt_ce cI cII cS ad σ j := by
  have e : ∀ q, wt_gf (wt_sf σ i k v) j q = wt_gf σ j q := fun q => by rw [wt_gf_sf, if_neg (fun z => h z.1)]
  have e2 : wt_ga (wt_sf σ i k v) j = wt_ga σ j := rfl
  unfold wt_ce wt_fv
  simp only [e, e2]
theorem wt_ce_sa {cI cII cS : ClassId} {ad : Nat → Nat} {σ : wt_St} {i k j : Nat} {v : Int32} (h : j ≠ i) : wt_ce cI cII cS ad (wt_sa σ i k v) j = wt_ce cI cII cS ad σ j := by
  have e : wt_ga (wt_sa σ i k v) j = wt_ga σ j := by
    funext q
    rw [wt_ga_sa, if_neg (fun z => h z.1)]
  have e2 : ∀ q, wt_gf (wt_sa σ i k v) j q = wt_gf σ j q := fun q => rfl
  unfold wt_ce wt_fv
  simp only [e, e2]
theorem wt_fs_get {ad : Nat → Nat} {σ : wt_St} {i k r : Nat} {rs : List Nat} (h : rs[k]? = some r) : ((List.range rs.length).map (fun q => wt_fv ad σ i q (rs.getD q 0)))[k]? = some (wt_fv ad σ i k r) := by
  have hk := (List.getElem?_eq_some_iff.mp h).1
  rw [List.getElem?_map, List.getElem?_range hk]
  simp [List.getD_eq_getElem?_getD, h]
theorem wt_fs_set {ad : Nat → Nat} {σ : wt_St} {i k : Nat} {v : Int32} {rs : List Nat} (h : rs[k]? = some 0) : ((List.range rs.length).map (fun q => wt_fv ad σ i q (rs.getD q 0))).set k (.int v) = (List.range rs.length).map (fun q => wt_fv ad (wt_sf σ i k v) i q (rs.getD q 0)) := by
  have hk := (List.getElem?_eq_some_iff.mp h).1
  apply List.ext_getElem?
  intro q
  by_cases hq : q < rs.length
  · by_cases e : q = k
    · subst e
      rw [List.getElem?_set_self (by simpa using hk), List.getElem?_map, List.getElem?_range hk]
      simp [List.getD_eq_getElem?_getD, h, wt_fv, wt_gf_sf]
    · rw [List.getElem?_set_ne (fun z => e z.symm), List.getElem?_map, List.getElem?_range hq, List.getElem?_map, List.getElem?_range hq]
      simp [wt_fv, wt_gf_sf, e]
  · rw [List.getElem?_eq_none (by simpa using hq), List.getElem?_eq_none (by simpa using hq)]
/-! locals: a list, by their places; a place that isn't known is none -/
def wt_lo (ls : Array Slot) (nL : Nat) (lv : List (Option Value)) : Prop := ls.size = nL ∧ lv_wf ls ∧ ∀ (j : Nat) (v : Value), lv[j]? = some (some v) → v.category = 1 ∧ ls[j]? = some (.val v)
theorem wt_lo.store {ls : Array Slot} {nL : Nat} {lv : List (Option Value)} {i : Nat} {v : Value} (h : wt_lo ls nL lv) (hi : i < nL) (hc : v.category = 1) : ∃ ls', storeLocals ls i v = some ls' ∧ wt_lo ls' nL (lv.set i (some v)) := by
  obtain ⟨h1, h2, h3⟩ := h
  obtain ⟨ls', e, hh⟩ := lv_store1 (l := []) ⟨h1, h2, fun q hq => by cases hq⟩ hi hc
  refine ⟨ls', e, hh.1, hh.2.1, fun j w hj => ?_⟩
  by_cases hji : j = i
  · subst hji
    have hw : w = v := by
      by_cases hl : j < lv.length
      · rw [List.getElem?_set_self hl] at hj
        cases hj
        rfl
      · rw [List.getElem?_eq_none (by simpa using hl)] at hj
        cases hj
    subst hw
    exact ⟨hc, hh.2.2 (j, w) List.mem_cons_self⟩
  · rw [List.getElem?_set_ne (fun z => hji z.symm)] at hj
    obtain ⟨c, hl⟩ := h3 j w hj
    obtain ⟨ls2, e2, hh2⟩ := lv_store1 (l := [(j, w)]) ⟨h1, h2, fun q hq => by
      rw [List.mem_singleton] at hq
      subst hq
      exact hl⟩ hi hc
    cases e.symm.trans e2
    refine ⟨c, hh2.2.2 (j, w) (List.mem_cons_of_mem _ ?_)⟩
    simp [hji, c]
theorem wt_lo.sub {ls : Array Slot} {nL : Nat} {lv lv' : List (Option Value)} (h : wt_lo ls nL lv) (hs : ∀ (j : Nat) (v : Value), lv'[j]? = some (some v) → lv[j]? = some (some v)) : wt_lo ls nL lv' := ⟨h.1, h.2.1, fun j v hj => h.2.2 j v (hs j v hj)⟩
/-! the words of one nest -/
def wt_NW (U : State) : Prop := ∀ w ∈ wt_NT, va_Nw w U
theorem wt_NW.warm {s U : State} (hW : s.WarmedH U.vm) (h : wt_NW s) : wt_NW U := by
  intro w hw
  have h1 := (List.mem_filter.mp hw).2
  have h2 := h w hw
  cases w <;> first | exact va_Nw.warmF hW h2 | exact va_Nw.warmM hW h2 | exact va_Nw.warmC hW h2 | exact va_Nw.warmD hW h2 | cases h1
/-! the judgement -/
abbrev wt_X : Type := (Program × Launch × Jvm.Env × Room × State × MethodId × Array Value × List Frame × Method × Code) × wt_E × Nat × (State → Prop)
abbrev wt_xp (X : wt_X) : Program := X.1.1
abbrev wt_xl (X : wt_X) : Launch := X.1.2.1
abbrev wt_xe (X : wt_X) : Jvm.Env := X.1.2.2.1
abbrev wt_xR (X : wt_X) : Room := X.1.2.2.2.1
abbrev wt_xs (X : wt_X) : State := X.1.2.2.2.2.1
abbrev wt_xm (X : wt_X) : MethodId := X.1.2.2.2.2.2.1
abbrev wt_xa (X : wt_X) : Array Value := X.1.2.2.2.2.2.2.1
abbrev wt_xb (X : wt_X) : List Frame := X.1.2.2.2.2.2.2.2.1
abbrev wt_xM (X : wt_X) : Method := X.1.2.2.2.2.2.2.2.2.1
abbrev wt_xc (X : wt_X) : Code := X.1.2.2.2.2.2.2.2.2.2
abbrev wt_xw (X : wt_X) : wt_E := X.2.1
abbrev wt_xn (X : wt_X) : Nat := X.2.2.1
abbrev wt_xQ (X : wt_X) : State → Prop := X.2.2.2
abbrev wt_W (X : wt_X) (H : Heap) (locs : List Loc) (ce sl : Nat) (g : JFrame) : Prop := W (wt_xp X) (wt_xl X) (wt_xe X) (wt_xR X) (wt_xs X) (wt_xm X) (wt_xa X) (wt_xb X) (wt_xM X) (wt_xc X) H locs ce sl (wt_xQ X) g
/-- at pc, with these locals and this stack, the numbers being σ, at most K objects made: the method comes to its end -/
def wt_V (X : wt_X) (K : Nat) (σ : wt_St) (pc : Nat) (lv : List (Option Value)) (st : List Value) : Prop :=
  ∀ (H : Heap) (locs : List Loc) (ls : Array Slot) (ce sl : Nat), ce ≤ K → sl ≤ 16 * K → wt_Wd (wt_xw X) σ H → va_S (wt_A (wt_xw X) (wt_xs X).heap.size) (wt_xs X).heap H locs → wt_lo ls (wt_xn X) lv → wt_W X H locs ce sl (F0 (wt_xm X) pc ls st)
/-- what holds of a method's body: the machine, its code, its words, the classes, its room (d frames below it, Km objects) -/
def wt_Ok (X : wt_X) (cc : ByteArray) (nL : Nat) (own : String) (d Km : Nat) : Prop :=
  (wt_xp X).tables.exec = Jvm.exec ∧ (wt_xc X).code = cc ∧ (wt_xc X).maxLocals = nL ∧ wt_xn X = nL ∧ (wt_xs X).vm.findClass own = some (wt_xm X).cls ∧ (∀ w ∈ wt_GT, w.before (wt_xa X) (wt_xs X) = true) ∧ va_K (wt_wD (wt_xw X)) wt_cl (wt_tys (wt_xw X)) (wt_xs X) ∧ wt_NW (wt_xs X) ∧ d ≤ (wt_xR X).frames ∧ 64 * d ≤ (wt_xR X).locals ∧ Km ≤ (wt_xR X).cells ∧ 16 * Km ≤ (wt_xR X).slots ∧ (wt_xM X).locks = false ∧ wt_FX (wt_A (wt_xw X) (wt_xs X).heap.size) (wt_xs X) (wt_xs X).heap
section WT1
variable {X : wt_X} {cc : ByteArray} {nL : Nat} {own : String} {d Km K : Nat} {σ : wt_St} {pc : Nat} {lv : List (Option Value)} {st : List Value}
theorem wt_iconst (h : wt_Ok X cc nL own d Km) {n : Int} (v : Int32) (hd : decode cc pc = .ok (.iconst n, 1)) (hv : Int32.ofInt n = v) (k : wt_V X K σ (pc + 1) lv (.int v :: st)) : wt_V X K σ pc lv st :=
  fun H locs ls ce sl h1 h2 hw hS hl => lv_iconst h.1 h.2.1 hd hv (k H locs ls ce sl h1 h2 hw hS hl)
theorem wt_bipush (h : wt_Ok X cc nL own d Km) {n : Int} (v : Int32) (hd : decode cc pc = .ok (.bipush n, 2)) (hv : (Int8.ofInt n).toInt32 = v) (k : wt_V X K σ (pc + 2) lv (.int v :: st)) : wt_V X K σ pc lv st :=
  fun H locs ls ce sl h1 h2 hw hS hl => lv_bipush h.1 h.2.1 hd hv (k H locs ls ce sl h1 h2 hw hS hl)
theorem wt_sipush (h : wt_Ok X cc nL own d Km) {n : Int} (v : Int32) (hd : decode cc pc = .ok (.sipush n, 3)) (hv : (Int16.ofInt n).toInt32 = v) (k : wt_V X K σ (pc + 3) lv (.int v :: st)) : wt_V X K σ pc lv st :=
  fun H locs ls ce sl h1 h2 hw hS hl => lv_sipush h.1 h.2.1 hd hv (k H locs ls ce sl h1 h2 hw hS hl)
theorem wt_ldc (h : wt_Ok X cc nL own d Km) {index : Nat} (v : Int32) (hw0 : Jvm.Cond.constant own index v ∈ wt_GT) (hd : decode cc pc = .ok (.ldc index, 2)) (k : wt_V X K σ (pc + 2) lv (.int v :: st)) : wt_V X K σ pc lv st :=
  fun H locs ls ce sl h1 h2 hw hS hl => lv_ldc h.1 h.2.1 h.2.2.2.2.1 (h.2.2.2.2.2.1 _ hw0) hd (k H locs ls ce sl h1 h2 hw hS hl)
theorem wt_ldcw (h : wt_Ok X cc nL own d Km) {index : Nat} (v : Int32) (hw0 : Jvm.Cond.constant own index v ∈ wt_GT) (hd : decode cc pc = .ok (.ldc_w index, 3)) (k : wt_V X K σ (pc + 3) lv (.int v :: st)) : wt_V X K σ pc lv st :=
  fun H locs ls ce sl h1 h2 hw hS hl => lv_ldcw h.1 h.2.1 h.2.2.2.2.1 (h.2.2.2.2.2.1 _ hw0) hd (k H locs ls ce sl h1 h2 hw hS hl)
theorem wt_iload_n (h : wt_Ok X cc nL own d Km) {i : Fin 4} {x : Int32} (hd : decode cc pc = .ok (.iload_n i, 1)) (hv : lv[(i : Nat)]? = some (some (.int x))) (k : wt_V X K σ (pc + 1) lv (.int x :: st)) : wt_V X K σ pc lv st :=
  fun H locs ls ce sl h1 h2 hw hS hl => lv_iload_n h.1 h.2.1 hd rfl (hl.2.2 _ _ hv).2 (k H locs ls ce sl h1 h2 hw hS hl)
theorem wt_iload (h : wt_Ok X cc nL own d Km) {i : Nat} {x : Int32} (hd : decode cc pc = .ok (.iload i, 2)) (hv : lv[i]? = some (some (.int x))) (k : wt_V X K σ (pc + 2) lv (.int x :: st)) : wt_V X K σ pc lv st :=
  fun H locs ls ce sl h1 h2 hw hS hl => lv_iload h.1 h.2.1 hd (hl.2.2 _ _ hv).2 (k H locs ls ce sl h1 h2 hw hS hl)
theorem wt_aload_n (h : wt_Ok X cc nL own d Km) {i : Fin 4} {x : Nat} (hd : decode cc pc = .ok (.aload_n i, 1)) (hv : lv[(i : Nat)]? = some (some (.ref x))) (k : wt_V X K σ (pc + 1) lv (.ref x :: st)) : wt_V X K σ pc lv st :=
  fun H locs ls ce sl h1 h2 hw hS hl => lv_aload_n h.1 h.2.1 hd rfl (hl.2.2 _ _ hv).2 (k H locs ls ce sl h1 h2 hw hS hl)
theorem wt_aload (h : wt_Ok X cc nL own d Km) {i : Nat} {x : Nat} (hd : decode cc pc = .ok (.aload i, 2)) (hv : lv[i]? = some (some (.ref x))) (k : wt_V X K σ (pc + 2) lv (.ref x :: st)) : wt_V X K σ pc lv st :=
  fun H locs ls ce sl h1 h2 hw hS hl => lv_aload h.1 h.2.1 hd (hl.2.2 _ _ hv).2 (k H locs ls ce sl h1 h2 hw hS hl)
theorem wt_stn {v : Value} (h : wt_Ok X cc nL own d Km) {i : Nat} {n : Nat} {lv' : List (Option Value)} (hin : i < nL) (hc : v.category = 1) (hl' : lv.set i (some v) = lv') (k : wt_V X K σ (pc + n) lv' st)
    (step : ∀ (H : Heap) (locs : List Loc) (ls ls' : Array Slot) (ce sl : Nat), storeLocals ls i v = some ls' → wt_W X H locs ce sl (F0 (wt_xm X) (pc + n) ls' st) → wt_W X H locs ce sl (F0 (wt_xm X) pc ls (v :: st))) : wt_V X K σ pc lv (v :: st) := by
  intro H locs ls ce sl h1 h2 hw hS hl
  obtain ⟨ls', e, hl2⟩ := hl.store (i := i) (v := v) (by rw [h.2.2.2.1]; exact hin) hc
  exact step H locs ls ls' ce sl e (k H locs ls' ce sl h1 h2 hw hS (hl' ▸ hl2))
theorem wt_istore_n (h : wt_Ok X cc nL own d Km) {i : Fin 4} {x : Int32} (lv' : List (Option Value)) (hd : decode cc pc = .ok (.istore_n i, 1)) (hin : (i : Nat) < nL) (hl' : lv.set (i : Nat) (some (.int x)) = lv') (k : wt_V X K σ (pc + 1) lv' st) : wt_V X K σ pc lv (.int x :: st) := by
  refine wt_stn h hin rfl hl' k fun H locs ls ls' ce sl e kk => ?_
  obtain ⟨hexec, hb, -⟩ := h
  intro T hT Y
  obtain ⟨t, a, b⟩ := kk T hT Y
  refine ⟨t, ?_, b⟩
  jvm_step Y.here [Y.here.top, ↓top_set Y.here.top, hexec, hb, hd, e]
  exact a
theorem wt_istore (h : wt_Ok X cc nL own d Km) {i : Nat} {x : Int32} (lv' : List (Option Value)) (hd : decode cc pc = .ok (.istore i, 2)) (hin : i < nL) (hl' : lv.set i (some (.int x)) = lv') (k : wt_V X K σ (pc + 2) lv' st) : wt_V X K σ pc lv (.int x :: st) := by
  refine wt_stn h hin rfl hl' k fun H locs ls ls' ce sl e kk => ?_
  obtain ⟨hexec, hb, -⟩ := h
  intro T hT Y
  obtain ⟨t, a, b⟩ := kk T hT Y
  refine ⟨t, ?_, b⟩
  jvm_step Y.here [Y.here.top, ↓top_set Y.here.top, hexec, hb, hd, e]
  exact a
theorem wt_astore_n (h : wt_Ok X cc nL own d Km) {i : Fin 4} {x : Nat} (lv' : List (Option Value)) (hd : decode cc pc = .ok (.astore_n i, 1)) (hin : (i : Nat) < nL) (hl' : lv.set (i : Nat) (some (.ref x)) = lv') (k : wt_V X K σ (pc + 1) lv' st) : wt_V X K σ pc lv (.ref x :: st) := by
  refine wt_stn h hin rfl hl' k fun H locs ls ls' ce sl e kk => ?_
  obtain ⟨hexec, hb, -⟩ := h
  intro T hT Y
  obtain ⟨t, a, b⟩ := kk T hT Y
  refine ⟨t, ?_, b⟩
  jvm_step Y.here [Y.here.top, ↓top_set Y.here.top, hexec, hb, hd, e]
  exact ⟨rfl, a⟩
theorem wt_astore (h : wt_Ok X cc nL own d Km) {i : Nat} {x : Nat} (lv' : List (Option Value)) (hd : decode cc pc = .ok (.astore i, 2)) (hin : i < nL) (hl' : lv.set i (some (.ref x)) = lv') (k : wt_V X K σ (pc + 2) lv' st) : wt_V X K σ pc lv (.ref x :: st) := by
  refine wt_stn h hin rfl hl' k fun H locs ls ls' ce sl e kk => ?_
  obtain ⟨hexec, hb, -⟩ := h
  intro T hT Y
  obtain ⟨t, a, b⟩ := kk T hT Y
  refine ⟨t, ?_, b⟩
  jvm_step Y.here [Y.here.top, ↓top_set Y.here.top, hexec, hb, hd, e]
  exact ⟨rfl, a⟩
theorem wt_iinc (h : wt_Ok X cc nL own d Km) {i : Nat} {n : Int} {x : Int32} (v : Int32) (lv' : List (Option Value)) (hd : decode cc pc = .ok (.iinc i n, 3)) (hin : i < nL) (hg : lv[i]? = some (some (.int x))) (hv : x + Int32.ofInt n = v) (hl' : lv.set i (some (.int v)) = lv') (k : wt_V X K σ (pc + 3) lv' st) : wt_V X K σ pc lv st := by
  intro H locs ls ce sl h1 h2 hw hS hl
  subst hv
  obtain ⟨ls', e, hl2⟩ := hl.store (i := i) (v := .int (x + Int32.ofInt n)) (by rw [h.2.2.2.1]; exact hin) rfl
  have hg2 := (hl.2.2 _ _ hg).2
  obtain ⟨hexec, hb, -⟩ := h
  intro T hT Y
  obtain ⟨t, a, b⟩ := k H locs ls' ce sl h1 h2 hw hS (hl' ▸ hl2) T hT Y
  refine ⟨t, ?_, b⟩
  jvm_step Y.here [Y.here.top, ↓top_set Y.here.top, hexec, hb, hd, hg2, e]
  exact a
theorem wt_iadd (h : wt_Ok X cc nL own d Km) {x y : Int32} (hd : decode cc pc = .ok (.iadd, 1)) (k : wt_V X K σ (pc + 1) lv (.int (x + y) :: st)) : wt_V X K σ pc lv (.int y :: .int x :: st) :=
  fun H locs ls ce sl h1 h2 hw hS hl => lv_iadd h.1 h.2.1 hd (k H locs ls ce sl h1 h2 hw hS hl)
theorem wt_isub (h : wt_Ok X cc nL own d Km) {x y : Int32} (hd : decode cc pc = .ok (.isub, 1)) (k : wt_V X K σ (pc + 1) lv (.int (x - y) :: st)) : wt_V X K σ pc lv (.int y :: .int x :: st) :=
  fun H locs ls ce sl h1 h2 hw hS hl => lv_isub h.1 h.2.1 hd (k H locs ls ce sl h1 h2 hw hS hl)
theorem wt_imul (h : wt_Ok X cc nL own d Km) {x y : Int32} (hd : decode cc pc = .ok (.imul, 1)) (k : wt_V X K σ (pc + 1) lv (.int (x * y) :: st)) : wt_V X K σ pc lv (.int y :: .int x :: st) :=
  fun H locs ls ce sl h1 h2 hw hS hl => lv_imul h.1 h.2.1 hd (k H locs ls ce sl h1 h2 hw hS hl)
theorem wt_iand (h : wt_Ok X cc nL own d Km) {x y : Int32} (hd : decode cc pc = .ok (.iand, 1)) (k : wt_V X K σ (pc + 1) lv (.int (x &&& y) :: st)) : wt_V X K σ pc lv (.int y :: .int x :: st) :=
  fun H locs ls ce sl h1 h2 hw hS hl => lv_iand h.1 h.2.1 hd (k H locs ls ce sl h1 h2 hw hS hl)
theorem wt_ior (h : wt_Ok X cc nL own d Km) {x y : Int32} (hd : decode cc pc = .ok (.ior, 1)) (k : wt_V X K σ (pc + 1) lv (.int (x ||| y) :: st)) : wt_V X K σ pc lv (.int y :: .int x :: st) :=
  fun H locs ls ce sl h1 h2 hw hS hl => lv_ior h.1 h.2.1 hd (k H locs ls ce sl h1 h2 hw hS hl)
theorem wt_idiv (h : wt_Ok X cc nL own d Km) {x y : Int32} (hd : decode cc pc = .ok (.idiv, 1)) (hne : ¬ y = 0) (k : wt_V X K σ (pc + 1) lv (.int (x / y) :: st)) : wt_V X K σ pc lv (.int y :: .int x :: st) :=
  fun H locs ls ce sl h1 h2 hw hS hl => lv_idiv h.1 h.2.1 hd hne (k H locs ls ce sl h1 h2 hw hS hl)
theorem wt_ishl (h : wt_Ok X cc nL own d Km) {x y : Int32} (hd : decode cc pc = .ok (.ishl, 1)) (k : wt_V X K σ (pc + 1) lv (.int (x <<< (y &&& 31)) :: st)) : wt_V X K σ pc lv (.int y :: .int x :: st) :=
  fun H locs ls ce sl h1 h2 hw hS hl => lv_ishl h.1 h.2.1 hd (k H locs ls ce sl h1 h2 hw hS hl)
theorem wt_ishr (h : wt_Ok X cc nL own d Km) {x y : Int32} (hd : decode cc pc = .ok (.ishr, 1)) (k : wt_V X K σ (pc + 1) lv (.int (x >>> (y &&& 31)) :: st)) : wt_V X K σ pc lv (.int y :: .int x :: st) :=
  fun H locs ls ce sl h1 h2 hw hS hl => lv_ishr h.1 h.2.1 hd (k H locs ls ce sl h1 h2 hw hS hl)
def wt_ush (x y : Int32) : Int32 := (x.toUInt32 >>> (y.toUInt32 &&& Int32.toUInt32 31)).toInt32
theorem wt_iushr (h : wt_Ok X cc nL own d Km) {x y : Int32} (hd : decode cc pc = .ok (.iushr, 1)) (k : wt_V X K σ (pc + 1) lv (.int (wt_ush x y) :: st)) : wt_V X K σ pc lv (.int y :: .int x :: st) :=
  fun H locs ls ce sl h1 h2 hw hS hl => lv_iushr h.1 h.2.1 hd rfl (k H locs ls ce sl h1 h2 hw hS hl)
theorem wt_dup (h : wt_Ok X cc nL own d Km) {v : Value} (hd : decode cc pc = .ok (.dup, 1)) (hc : v.category = 1) (k : wt_V X K σ (pc + 1) lv (v :: v :: st)) : wt_V X K σ pc lv (v :: st) :=
  fun H locs ls ce sl h1 h2 hw hS hl => lv_dup h.1 h.2.1 hd hc (k H locs ls ce sl h1 h2 hw hS hl)
theorem wt_pop (h : wt_Ok X cc nL own d Km) {v : Value} (hd : decode cc pc = .ok (.pop, 1)) (hc : v.category = 1) (k : wt_V X K σ (pc + 1) lv st) : wt_V X K σ pc lv (v :: st) :=
  fun H locs ls ce sl h1 h2 hw hS hl => lv_pop h.1 h.2.1 hd hc (k H locs ls ce sl h1 h2 hw hS hl)
theorem wt_dup2 (h : wt_Ok X cc nL own d Km) {v u : Value} (hd : decode cc pc = .ok (.dup2, 1)) (hc : v.category = 1) (hc2 : u.category = 1) (k : wt_V X K σ (pc + 1) lv (v :: u :: v :: u :: st)) : wt_V X K σ pc lv (v :: u :: st) :=
  fun H locs ls ce sl h1 h2 hw hS hl => lv_dup2_11 h.1 h.2.1 hd hc hc2 (k H locs ls ce sl h1 h2 hw hS hl)
theorem wt_goto (h : wt_Ok X cc nL own d Km) {off : Int} (tgt : Nat) (hd : decode cc pc = .ok (.goto off, 3)) (ht : (pc : Int) + off = (tgt : Int)) (k : wt_V X K σ tgt lv st) : wt_V X K σ pc lv st :=
  fun H locs ls ce sl h1 h2 hw hS hl => lv_goto h.1 h.2.1 hd ht (k H locs ls ce sl h1 h2 hw hS hl)
theorem wt_if_eq (h : wt_Ok X cc nL own d Km) {x : Int32} {off : Int} (tgt : Nat) (hd : decode cc pc = .ok (.ifCond .eq off, 3)) (ht : (pc : Int) + off = (tgt : Int)) (kt : x = 0 → wt_V X K σ tgt lv st) (kf : ¬ x = 0 → wt_V X K σ (pc + 3) lv st) : wt_V X K σ pc lv (.int x :: st) :=
  fun H locs ls ce sl h1 h2 hw hS hl => lv_if_eq h.1 h.2.1 hd ht (fun c => kt c H locs ls ce sl h1 h2 hw hS hl) (fun c => kf c H locs ls ce sl h1 h2 hw hS hl)
theorem wt_if_ne (h : wt_Ok X cc nL own d Km) {x : Int32} {off : Int} (tgt : Nat) (hd : decode cc pc = .ok (.ifCond .ne off, 3)) (ht : (pc : Int) + off = (tgt : Int)) (kt : ¬ x = 0 → wt_V X K σ tgt lv st) (kf : x = 0 → wt_V X K σ (pc + 3) lv st) : wt_V X K σ pc lv (.int x :: st) :=
  fun H locs ls ce sl h1 h2 hw hS hl => lv_if_ne h.1 h.2.1 hd ht (fun c => kt c H locs ls ce sl h1 h2 hw hS hl) (fun c => kf c H locs ls ce sl h1 h2 hw hS hl)
theorem wt_if_lt (h : wt_Ok X cc nL own d Km) {x : Int32} {off : Int} (tgt : Nat) (hd : decode cc pc = .ok (.ifCond .lt off, 3)) (ht : (pc : Int) + off = (tgt : Int)) (kt : x < 0 → wt_V X K σ tgt lv st) (kf : ¬ x < 0 → wt_V X K σ (pc + 3) lv st) : wt_V X K σ pc lv (.int x :: st) :=
  fun H locs ls ce sl h1 h2 hw hS hl => lv_if_lt h.1 h.2.1 hd ht (fun c => kt c H locs ls ce sl h1 h2 hw hS hl) (fun c => kf c H locs ls ce sl h1 h2 hw hS hl)
end WT1
