/-! constructors: the world while it is being made. Values by ids; the cells next, next+1, .. are not there yet; U: the places that still hold null. -/
abbrev wt_Q : Type := Int32 ⊕ Nat
def wt_qv (ad : Nat → Nat) : wt_Q → Value
  | .inl x => .int x
  | .inr j => .ref (ad j)
def wt_qlt (n : Nat) : wt_Q → Bool
  | .inl _ => true
  | .inr j => decide (j < n)
abbrev wt_U : Type := List (Nat × Nat)
/-- is place k of cell i empty yet: its target is not there, or it is in U -/
def wt_em (next : Nat) (U : wt_U) (i k t : Nat) : Bool := decide (next ≤ t) || U.contains (i, k)
def wt_pe (cI cII cS : ClassId) (ad : Nat → Nat) (σ : wt_St) (next : Nat) (U : wt_U) (i : Nat) : va_E := match wt_LAY[i]? with
  | some (0, n, _) => .inl (cI, n, .inl (wt_ga σ i))
  | some (1, n, rs) => .inl (cII, n, .inr (.inr (.inr (.inr (fun j => if j < n ∧ rs.getD 0 0 + j < next then some (ad (rs.getD 0 0 + j)) else none)))))
  | some (2, n, rs) => .inl (cS, n, .inr (.inr (.inr (.inr (fun j => if j < n ∧ wt_em next U i j (rs.getD 0 0 + rs.getD 1 0 * j) = false then some (ad (rs.getD 0 0 + rs.getD 1 0 * j)) else none)))))
  | some (k + 3, _, rs) => .inr (k, (List.range rs.length).map (fun q => if ¬ rs.getD q 0 = 0 ∧ wt_em next U i q (rs.getD q 0 - 1) = true then .null else wt_fv ad σ i q (rs.getD q 0)))
  | none => .inl (cI, 0, .inl (fun _ => 0))
def wt_bw (w : wt_E) (ad : Nat → Nat) (σ : wt_St) (U : wt_U) (next : Nat) : va_W := (List.range next).map (fun i => (ad i, wt_pe (wt_wI w) (wt_wJ w) (wt_wS w) ad σ next U i))
theorem wt_bw_get {w : wt_E} {ad : Nat → Nat} {σ : wt_St} {U : wt_U} {next i : Nat} (h : i < next) : (wt_bw w ad σ U next)[i]? = some (ad i, wt_pe (wt_wI w) (wt_wJ w) (wt_wS w) ad σ next U i) := by
  unfold wt_bw
  rw [List.getElem?_map, List.getElem?_range h]
  rfl
theorem wt_bw_set {w : wt_E} {ad : Nat → Nat} {σ σ' : wt_St} {U U' : wt_U} {next i : Nat} {e : va_E} (h : i < next) (he : wt_pe (wt_wI w) (wt_wJ w) (wt_wS w) ad σ' next U' i = e) (ho : ∀ j, j < next → j ≠ i → wt_pe (wt_wI w) (wt_wJ w) (wt_wS w) ad σ' next U' j = wt_pe (wt_wI w) (wt_wJ w) (wt_wS w) ad σ next U j) : (wt_bw w ad σ U next).set i (ad i, e) = wt_bw w ad σ' U' next := by
  apply List.ext_getElem?
  intro q
  by_cases hq : q < next
  · by_cases e1 : q = i
    · subst e1
      rw [List.getElem?_set_self (by simpa [wt_bw] using h), wt_bw_get h, he]
    · rw [List.getElem?_set_ne (fun z => e1 z.symm), wt_bw_get hq, wt_bw_get hq, ho q hq e1]
  · rw [List.getElem?_eq_none (by simpa [wt_bw] using hq), List.getElem?_eq_none (by simpa [wt_bw] using hq)]
theorem wt_bw_push {w : wt_E} {ad ad' : Nat → Nat} {σ : wt_St} {U U' : wt_U} {next q : Nat} {e : va_E} (hq : ad' next = q) (h1 : ∀ j, j < next → ad' j = ad j) (he : wt_pe (wt_wI w) (wt_wJ w) (wt_wS w) ad' σ (next + 1) U' next = e) (ho : ∀ j, j < next → wt_pe (wt_wI w) (wt_wJ w) (wt_wS w) ad' σ (next + 1) U' j = wt_pe (wt_wI w) (wt_wJ w) (wt_wS w) ad σ next U j) : wt_bw w ad σ U next ++ [(q, e)] = wt_bw w ad' σ U' (next + 1) := by
  unfold wt_bw
  rw [List.range_succ, List.map_append, List.map_singleton, hq, he]
  congr 1
  apply List.map_congr_left
  intro j hj
  have := List.mem_range.mp hj
  rw [h1 j this, ho j this]
def wt_zero (σ : wt_St) (next : Nat) : Prop := ∀ i, next ≤ i → (∀ k, wt_gf σ i k = 0) ∧ ∀ j, wt_ga σ i j = 0
/-- the cells so far, and where -/
def wt_Bw (X : wt_X) (next : Nat) (U : wt_U) (σ : wt_St) (ad : Nat → Nat) (H : Heap) : Prop :=
  (∀ i, wt_dom (wt_xw X) i → ad i = wt_ad (wt_xw X) i ∧ i < next) ∧ va_P (wt_wD (wt_xw X)) wt_cl (wt_bw (wt_xw X) ad σ U next) H ∧ va_D (wt_A (wt_xw X) (wt_xs X).heap.size) (wt_bw (wt_xw X) ad σ U next) ∧ wt_zero σ next
def wt_B (X : wt_X) (k n next : Nat) (U : wt_U) (σ : wt_St) (pc : Nat) (lv : List (Option wt_Q)) (st : List wt_Q) : Prop :=
  ∀ (ad : Nat → Nat) (H : Heap) (locs : List Loc) (ls : Array Slot) (ce sl : Nat), ce ≤ k → sl ≤ n → wt_Bw X next U σ ad H → va_S (wt_A (wt_xw X) (wt_xs X).heap.size) (wt_xs X).heap H locs → wt_lo ls (wt_xn X) (lv.map (Option.map (wt_qv ad))) → wt_W X H locs ce sl (F0 (wt_xm X) pc ls (st.map (wt_qv ad)))
section WB1
variable {X : wt_X} {cc : ByteArray} {nL : Nat} {own : String} {d Km k n next : Nat} {U : wt_U} {σ : wt_St} {pc : Nat} {lv : List (Option wt_Q)} {st : List wt_Q}
theorem wt_bget {ad : Nat → Nat} {ls : Array Slot} {j : Nat} {q : wt_Q} (hl : wt_lo ls nL (lv.map (Option.map (wt_qv ad)))) (h : lv[j]? = some (some q)) : ls[j]? = some (.val (wt_qv ad q)) :=
  (hl.2.2 j (wt_qv ad q) (by rw [List.getElem?_map, h]; rfl)).2
theorem wt_bn_iconst (h : wt_Ok X cc nL own d Km) {z : Int} (v : Int32) (hd : decode cc pc = .ok (.iconst z, 1)) (hv : Int32.ofInt z = v) (kk : wt_B X k n next U σ (pc + 1) lv (.inl v :: st)) : wt_B X k n next U σ pc lv st :=
  fun ad H locs ls ce sl h1 h2 hw hS hl => lv_iconst h.1 h.2.1 hd hv (kk ad H locs ls ce sl h1 h2 hw hS hl)
theorem wt_bn_bipush (h : wt_Ok X cc nL own d Km) {z : Int} (v : Int32) (hd : decode cc pc = .ok (.bipush z, 2)) (hv : (Int8.ofInt z).toInt32 = v) (kk : wt_B X k n next U σ (pc + 2) lv (.inl v :: st)) : wt_B X k n next U σ pc lv st :=
  fun ad H locs ls ce sl h1 h2 hw hS hl => lv_bipush h.1 h.2.1 hd hv (kk ad H locs ls ce sl h1 h2 hw hS hl)
theorem wt_bn_sipush (h : wt_Ok X cc nL own d Km) {z : Int} (v : Int32) (hd : decode cc pc = .ok (.sipush z, 3)) (hv : (Int16.ofInt z).toInt32 = v) (kk : wt_B X k n next U σ (pc + 3) lv (.inl v :: st)) : wt_B X k n next U σ pc lv st :=
  fun ad H locs ls ce sl h1 h2 hw hS hl => lv_sipush h.1 h.2.1 hd hv (kk ad H locs ls ce sl h1 h2 hw hS hl)
theorem wt_bn_iload_n (h : wt_Ok X cc nL own d Km) {i : Fin 4} {x : Int32} (hd : decode cc pc = .ok (.iload_n i, 1)) (hv : lv[(i : Nat)]? = some (some (.inl x))) (kk : wt_B X k n next U σ (pc + 1) lv (.inl x :: st)) : wt_B X k n next U σ pc lv st :=
  fun ad H locs ls ce sl h1 h2 hw hS hl => lv_iload_n h.1 h.2.1 hd rfl (wt_bget hl hv) (kk ad H locs ls ce sl h1 h2 hw hS hl)
theorem wt_bn_iload (h : wt_Ok X cc nL own d Km) {i : Nat} {x : Int32} (hd : decode cc pc = .ok (.iload i, 2)) (hv : lv[i]? = some (some (.inl x))) (kk : wt_B X k n next U σ (pc + 2) lv (.inl x :: st)) : wt_B X k n next U σ pc lv st :=
  fun ad H locs ls ce sl h1 h2 hw hS hl => lv_iload h.1 h.2.1 hd (wt_bget hl hv) (kk ad H locs ls ce sl h1 h2 hw hS hl)
theorem wt_bn_aload_n (h : wt_Ok X cc nL own d Km) {i : Fin 4} {x : Nat} (hd : decode cc pc = .ok (.aload_n i, 1)) (hv : lv[(i : Nat)]? = some (some (.inr x))) (kk : wt_B X k n next U σ (pc + 1) lv (.inr x :: st)) : wt_B X k n next U σ pc lv st :=
  fun ad H locs ls ce sl h1 h2 hw hS hl => lv_aload_n h.1 h.2.1 hd rfl (wt_bget hl hv) (kk ad H locs ls ce sl h1 h2 hw hS hl)
theorem wt_bn_aload (h : wt_Ok X cc nL own d Km) {i : Nat} {x : Nat} (hd : decode cc pc = .ok (.aload i, 2)) (hv : lv[i]? = some (some (.inr x))) (kk : wt_B X k n next U σ (pc + 2) lv (.inr x :: st)) : wt_B X k n next U σ pc lv st :=
  fun ad H locs ls ce sl h1 h2 hw hS hl => lv_aload h.1 h.2.1 hd (wt_bget hl hv) (kk ad H locs ls ce sl h1 h2 hw hS hl)
theorem wt_bn_dup (h : wt_Ok X cc nL own d Km) {v : wt_Q} (hd : decode cc pc = .ok (.dup, 1)) (kk : wt_B X k n next U σ (pc + 1) lv (v :: v :: st)) : wt_B X k n next U σ pc lv (v :: st) :=
  fun ad H locs ls ce sl h1 h2 hw hS hl => lv_dup h.1 h.2.1 hd (by cases v <;> rfl) (kk ad H locs ls ce sl h1 h2 hw hS hl)
theorem wt_bn_goto (h : wt_Ok X cc nL own d Km) {off : Int} (tgt : Nat) (hd : decode cc pc = .ok (.goto off, 3)) (ht : (pc : Int) + off = (tgt : Int)) (kk : wt_B X k n next U σ tgt lv st) : wt_B X k n next U σ pc lv st :=
  fun ad H locs ls ce sl h1 h2 hw hS hl => lv_goto h.1 h.2.1 hd ht (kk ad H locs ls ce sl h1 h2 hw hS hl)
theorem wt_bn_icmp_geT (h : wt_Ok X cc nL own d Km) {x y : Int32} {off : Int} (tgt : Nat) (hd : decode cc pc = .ok (.if_icmp .ge off, 3)) (ht : (pc : Int) + off = (tgt : Int)) (hc : y ≤ x) (kt : wt_B X k n next U σ tgt lv st) : wt_B X k n next U σ pc lv (.inl y :: .inl x :: st) :=
  fun ad H locs ls ce sl h1 h2 hw hS hl => lv_icmp_ge h.1 h.2.1 hd ht (fun _ => kt ad H locs ls ce sl h1 h2 hw hS hl) (fun c => absurd hc c)
theorem wt_bn_icmp_geF (h : wt_Ok X cc nL own d Km) {x y : Int32} {off : Int} (tgt : Nat) (hd : decode cc pc = .ok (.if_icmp .ge off, 3)) (ht : (pc : Int) + off = (tgt : Int)) (hc : ¬ y ≤ x) (kf : wt_B X k n next U σ (pc + 3) lv st) : wt_B X k n next U σ pc lv (.inl y :: .inl x :: st) :=
  fun ad H locs ls ce sl h1 h2 hw hS hl => lv_icmp_ge h.1 h.2.1 hd ht (fun c => absurd c hc) (fun _ => kf ad H locs ls ce sl h1 h2 hw hS hl)
theorem wt_bst {v : wt_Q} {ad : Nat → Nat} {ls : Array Slot} {i : Nat} {lv' : List (Option wt_Q)} (hl : wt_lo ls nL (lv.map (Option.map (wt_qv ad)))) (hi : i < nL) (hl' : lv.set i (some v) = lv') : ∃ ls', storeLocals ls i (wt_qv ad v) = some ls' ∧ wt_lo ls' nL (lv'.map (Option.map (wt_qv ad))) := by
  obtain ⟨ls', e, hl2⟩ := hl.store (i := i) (v := wt_qv ad v) hi (by cases v <;> rfl)
  refine ⟨ls', e, ?_⟩
  rw [← hl', List.map_set]
  exact hl2
theorem wt_bn_istore_n (h : wt_Ok X cc nL own d Km) {i : Fin 4} {x : Int32} (lv' : List (Option wt_Q)) (hd : decode cc pc = .ok (.istore_n i, 1)) (hin : (i : Nat) < nL) (hl' : lv.set (i : Nat) (some (.inl x)) = lv') (kk : wt_B X k n next U σ (pc + 1) lv' st) : wt_B X k n next U σ pc lv (.inl x :: st) := by
  intro ad H locs ls ce sl h1 h2 hw hS hl
  obtain ⟨ls', e0, hl2⟩ := wt_bst hl (by rw [h.2.2.2.1]; exact hin) hl'
  have e : storeLocals ls (i : Nat) (.int x) = some ls' := e0
  obtain ⟨hexec, hb, -⟩ := h
  show wt_W X H locs ce sl (F0 (wt_xm X) pc ls (.int x :: st.map (wt_qv ad)))
  intro T hT Y
  obtain ⟨t, a, b⟩ := kk ad H locs ls' ce sl h1 h2 hw hS hl2 T hT Y
  refine ⟨t, ?_, b⟩
  jvm_step Y.here [Y.here.top, ↓top_set Y.here.top, hexec, hb, hd, e]
  exact a
theorem wt_bn_iinc (h : wt_Ok X cc nL own d Km) {i : Nat} {z : Int} {x : Int32} (v : Int32) (lv' : List (Option wt_Q)) (hd : decode cc pc = .ok (.iinc i z, 3)) (hin : i < nL) (hg : lv[i]? = some (some (.inl x))) (hv : x + Int32.ofInt z = v) (hl' : lv.set i (some (.inl v)) = lv') (kk : wt_B X k n next U σ (pc + 3) lv' st) : wt_B X k n next U σ pc lv st := by
  intro ad H locs ls ce sl h1 h2 hw hS hl
  subst hv
  obtain ⟨ls', e0, hl2⟩ := wt_bst hl (by rw [h.2.2.2.1]; exact hin) hl'
  have hg2 := wt_bget hl hg
  have e : storeLocals ls i (.int (x + Int32.ofInt z)) = some ls' := e0
  have hg3 : ls[i]? = some (.val (.int x)) := hg2
  obtain ⟨hexec, hb, -⟩ := h
  intro T hT Y
  obtain ⟨t, a, b⟩ := kk ad H locs ls' ce sl h1 h2 hw hS hl2 T hT Y
  refine ⟨t, ?_, b⟩
  jvm_step Y.here [Y.here.top, ↓top_set Y.here.top, hexec, hb, hd, hg3, e]
  exact a
end WB1
