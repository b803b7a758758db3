-- 50.cfw.lean.txt
section WTQ0
/-! constructors: the world while it is being made. Values by ids; the cells next, next+1, .. are not there yet; U: the places that still hold null. -/
abbrev wt_Q : Type := Int32 ⊕ Nat
def wt_qv (ad : Nat → Nat) : wt_Q → Value
  | .inl x => .int x
  | .inr j => .ref (ad j)
def wt_qlt (n : Nat) : wt_Q → Bool
  | .inl _ => true
  | .inr j => decide (j < n)
abbrev wt_U : Type := List (Nat × Nat)
/-- is place k of cell i empty yet: its target is not there, or it is in U -/
def wt_em (next : Nat) (U : wt_U) (i k t : Nat) : Bool := decide (next ≤ t) || U.contains (i, k)
def wt_pe (cI cII cS : ClassId) (ad : Nat → Nat) (σ : wt_St) (next : Nat) (U : wt_U) (i : Nat) : va_E := match wt_LAY[i]? with
  | some (0, n, _) => .inl (cI, n, .inl (wt_ga σ i))
  | some (1, n, rs) => .inl (cII, n, .inr (.inr (.inr (.inr (fun j => if j < n ∧ rs.getD 0 0 + j < next then some (ad (rs.getD 0 0 + j)) else none)))))
  | some (2, n, rs) => .inl (cS, n, .inr (.inr (.inr (.inr (fun j => if j < n ∧ wt_em next U i j (rs.getD 0 0 + rs.getD 1 0 * j) = false then some (ad (rs.getD 0 0 + rs.getD 1 0 * j)) else none)))))
  | some (k + 3, _, rs) => .inr (k, (List.range rs.length).map (fun q => if ¬ rs.getD q 0 = 0 ∧ wt_em next U i q (rs.getD q 0 - 1) = true then .null else wt_fv ad σ i q (rs.getD q 0)))
  | none => .inl (cI, 0, .inl (fun _ => 0))
def wt_bw (w : wt_E) (ad : Nat → Nat) (σ : wt_St) (U : wt_U) (next : Nat) : va_W := (List.range next).map (fun i => (ad i, wt_pe (wt_wI w) (wt_wJ w) (wt_wS w) ad σ next U i))
theorem wt_bw_get {w : wt_E} {ad : Nat → Nat} {σ : wt_St} {U : wt_U} {next i : Nat} (h : i < next) : (wt_bw w ad σ U next)[i]? = some (ad i, wt_pe (wt_wI w) (wt_wJ w) (wt_wS w) ad σ next U i) := by
  unfold wt_bw
  rw [List.getElem?_map, List.getElem?_range h]
  rfl
theorem wt_bw_set {w : wt_E} {ad : Nat → Nat} {σ σ' : wt_St} {U U' : wt_U} {next i : Nat} {e : va_E} (h : i < next) (he : wt_pe (wt_wI w) (wt_wJ w) (wt_wS w) ad σ' next U' i = e) (ho : ∀ j, j < next → j ≠ i → wt_pe (wt_wI w) (wt_wJ w) (wt_wS w) ad σ' next U' j = wt_pe (wt_wI w) (wt_wJ w) (wt_wS w) ad σ next U j) : (wt_bw w ad σ U next).set i (ad i, e) = wt_bw w ad σ' U' next := by
  apply List.ext_getElem?
  intro q
  by_cases hq : q < next
  · by_cases e1 : q = i
    · subst e1
      rw [List.getElem?_set_self (by simpa [wt_bw] using h), wt_bw_get h, he]
    · rw [List.getElem?_set_ne (fun z => e1 z.symm), wt_bw_get hq, wt_bw_get hq, ho q hq e1]
  · rw [List.getElem?_eq_none (by simpa [wt_bw] using hq), List.getElem?_eq_none (by simpa [wt_bw] using hq)]
theorem wt_bw_push {w : wt_E} {ad ad' : Nat → Nat} {σ : wt_St} {U U' : wt_U} {next q : Nat} {e : va_E} (hq : ad' next = q) (h1 : ∀ j, j < next → ad' j = ad j) (he : wt_pe (wt_wI w) (wt_wJ w) (wt_wS w) ad' σ (next + 1) U' next = e) (ho : ∀ j, j < next → wt_pe (wt_wI w) (wt_wJ w) (wt_wS w) ad' σ (next + 1) U' j = wt_pe (wt_wI w) (wt_wJ w) (wt_wS w) ad σ next U j) : wt_bw w ad σ U next ++ [(q, e)] = wt_bw w ad' σ U' (next + 1) := by
  unfold wt_bw
  rw [List.range_succ, List.map_append, List.map_singleton, hq, he]
  congr 1
  apply List.map_congr_left
  intro j hj
  have := List.mem_range.mp hj
  rw [h1 j this, ho j this]
def wt_zero (σ : wt_St) (next : Nat) : Prop := ∀ i, next ≤ i → (∀ k, wt_gf σ i k = 0) ∧ ∀ j, wt_ga σ i j = 0
/-- the cells so far, and where -/
def wt_Bw (X : wt_X) (next : Nat) (U : wt_U) (σ : wt_St) (ad : Nat → Nat) (H : Heap) : Prop :=
  (∀ i, wt_dom (wt_xw X) i → ad i = wt_ad (wt_xw X) i ∧ i < next) ∧ va_P (wt_wD (wt_xw X)) wt_cl (wt_bw (wt_xw X) ad σ U next) H ∧ va_D (wt_A (wt_xw X) (wt_xs X).heap.size) (wt_bw (wt_xw X) ad σ U next) ∧ wt_zero σ next
def wt_B (X : wt_X) (k n next : Nat) (U : wt_U) (σ : wt_St) (pc : Nat) (lv : List (Option wt_Q)) (st : List wt_Q) : Prop :=
  ∀ (ad : Nat → Nat) (H : Heap) (locs : List Loc) (ls : Array Slot) (ce sl : Nat), ce ≤ k → sl ≤ n → wt_Bw X next U σ ad H → va_S (wt_A (wt_xw X) (wt_xs X).heap.size) (wt_xs X).heap H locs → wt_lo ls (wt_xn X) (lv.map (Option.map (wt_qv ad))) → wt_W X H locs ce sl (F0 (wt_xm X) pc ls (st.map (wt_qv ad)))
section WB1
variable {X : wt_X} {cc : ByteArray} {nL : Nat} {own : String} {d Km k n next : Nat} {U : wt_U} {σ : wt_St} {pc : Nat} {lv : List (Option wt_Q)} {st : List wt_Q}
theorem wt_bget {ad : Nat → Nat} {ls : Array Slot} {j : Nat} {q : wt_Q} (hl : wt_lo ls nL (lv.map (Option.map (wt_qv ad)))) (h : lv[j]? = some (some q)) : ls[j]? = some (.val (wt_qv ad q)) :=
  (hl.2.2 j (wt_qv ad q) (by rw [List.getElem?_map, h]; rfl)).2
theorem wt_bn_iconst (h : wt_Ok X cc nL own d Km) {z : Int} (v : Int32) (hd : decode cc pc = .ok (.iconst z, 1)) (hv : Int32.ofInt z = v) (kk : wt_B X k n next U σ (pc + 1) lv (.inl v :: st)) : wt_B X k n next U σ pc lv st :=
  fun ad H locs ls ce sl h1 h2 hw hS hl => lv_iconst h.1 h.2.1 hd hv (kk ad H locs ls ce sl h1 h2 hw hS hl)
theorem wt_bn_bipush (h : wt_Ok X cc nL own d Km) {z : Int} (v : Int32) (hd : decode cc pc = .ok (.bipush z, 2)) (hv : (Int8.ofInt z).toInt32 = v) (kk : wt_B X k n next U σ (pc + 2) lv (.inl v :: st)) : wt_B X k n next U σ pc lv st :=
  fun ad H locs ls ce sl h1 h2 hw hS hl => lv_bipush h.1 h.2.1 hd hv (kk ad H locs ls ce sl h1 h2 hw hS hl)
theorem wt_bn_sipush (h : wt_Ok X cc nL own d Km) {z : Int} (v : Int32) (hd : decode cc pc = .ok (.sipush z, 3)) (hv : (Int16.ofInt z).toInt32 = v) (kk : wt_B X k n next U σ (pc + 3) lv (.inl v :: st)) : wt_B X k n next U σ pc lv st :=
  fun ad H locs ls ce sl h1 h2 hw hS hl => lv_sipush h.1 h.2.1 hd hv (kk ad H locs ls ce sl h1 h2 hw hS hl)
theorem wt_bn_iload_n (h : wt_Ok X cc nL own d Km) {i : Fin 4} {x : Int32} (hd : decode cc pc = .ok (.iload_n i, 1)) (hv : lv[(i : Nat)]? = some (some (.inl x))) (kk : wt_B X k n next U σ (pc + 1) lv (.inl x :: st)) : wt_B X k n next U σ pc lv st :=
  fun ad H locs ls ce sl h1 h2 hw hS hl => lv_iload_n h.1 h.2.1 hd rfl (wt_bget hl hv) (kk ad H locs ls ce sl h1 h2 hw hS hl)
theorem wt_bn_iload (h : wt_Ok X cc nL own d Km) {i : Nat} {x : Int32} (hd : decode cc pc = .ok (.iload i, 2)) (hv : lv[i]? = some (some (.inl x))) (kk : wt_B X k n next U σ (pc + 2) lv (.inl x :: st)) : wt_B X k n next U σ pc lv st :=
  fun ad H locs ls ce sl h1 h2 hw hS hl => lv_iload h.1 h.2.1 hd (wt_bget hl hv) (kk ad H locs ls ce sl h1 h2 hw hS hl)
theorem wt_bn_aload_n (h : wt_Ok X cc nL own d Km) {i : Fin 4} {x : Nat} (hd : decode cc pc = .ok (.aload_n i, 1)) (hv : lv[(i : Nat)]? = some (some (.inr x))) (kk : wt_B X k n next U σ (pc + 1) lv (.inr x :: st)) : wt_B X k n next U σ pc lv st :=
  fun ad H locs ls ce sl h1 h2 hw hS hl => lv_aload_n h.1 h.2.1 hd rfl (wt_bget hl hv) (kk ad H locs ls ce sl h1 h2 hw hS hl)
theorem wt_bn_aload (h : wt_Ok X cc nL own d Km) {i : Nat} {x : Nat} (hd : decode cc pc = .ok (.aload i, 2)) (hv : lv[i]? = some (some (.inr x))) (kk : wt_B X k n next U σ (pc + 2) lv (.inr x :: st)) : wt_B X k n next U σ pc lv st :=
  fun ad H locs ls ce sl h1 h2 hw hS hl => lv_aload h.1 h.2.1 hd (wt_bget hl hv) (kk ad H locs ls ce sl h1 h2 hw hS hl)
theorem wt_bn_dup (h : wt_Ok X cc nL own d Km) {v : wt_Q} (hd : decode cc pc = .ok (.dup, 1)) (kk : wt_B X k n next U σ (pc + 1) lv (v :: v :: st)) : wt_B X k n next U σ pc lv (v :: st) :=
  fun ad H locs ls ce sl h1 h2 hw hS hl => lv_dup h.1 h.2.1 hd (by cases v <;> rfl) (kk ad H locs ls ce sl h1 h2 hw hS hl)
theorem wt_bn_goto (h : wt_Ok X cc nL own d Km) {off : Int} (tgt : Nat) (hd : decode cc pc = .ok (.goto off, 3)) (ht : (pc : Int) + off = (tgt : Int)) (kk : wt_B X k n next U σ tgt lv st) : wt_B X k n next U σ pc lv st :=
  fun ad H locs ls ce sl h1 h2 hw hS hl => lv_goto h.1 h.2.1 hd ht (kk ad H locs ls ce sl h1 h2 hw hS hl)
theorem wt_bn_icmp_geT (h : wt_Ok X cc nL own d Km) {x y : Int32} {off : Int} (tgt : Nat) (hd : decode cc pc = .ok (.if_icmp .ge off, 3)) (ht : (pc : Int) + off = (tgt : Int)) (hc : y ≤ x) (kt : wt_B X k n next U σ tgt lv st) : wt_B X k n next U σ pc lv (.inl y :: .inl x :: st) :=
  fun ad H locs ls ce sl h1 h2 hw hS hl => lv_icmp_ge h.1 h.2.1 hd ht (fun _ => kt ad H locs ls ce sl h1 h2 hw hS hl) (fun c => absurd hc c)
theorem wt_bn_icmp_geF (h : wt_Ok X cc nL own d Km) {x y : Int32} {off : Int} (tgt : Nat) (hd : decode cc pc = .ok (.if_icmp .ge off, 3)) (ht : (pc : Int) + off = (tgt : Int)) (hc : ¬ y ≤ x) (kf : wt_B X k n next U σ (pc + 3) lv st) : wt_B X k n next U σ pc lv (.inl y :: .inl x :: st) :=
  fun ad H locs ls ce sl h1 h2 hw hS hl => lv_icmp_ge h.1 h.2.1 hd ht (fun c => absurd c hc) (fun _ => kf ad H locs ls ce sl h1 h2 hw hS hl)
theorem wt_bst {v : wt_Q} {ad : Nat → Nat} {ls : Array Slot} {i : Nat} {lv' : List (Option wt_Q)} (hl : wt_lo ls nL (lv.map (Option.map (wt_qv ad)))) (hi : i < nL) (hl' : lv.set i (some v) = lv') : ∃ ls', storeLocals ls i (wt_qv ad v) = some ls' ∧ wt_lo ls' nL (lv'.map (Option.map (wt_qv ad))) := by
  obtain ⟨ls', e, hl2⟩ := hl.store (i := i) (v := wt_qv ad v) hi (by cases v <;> rfl)
  refine ⟨ls', e, ?_⟩
  rw [← hl', List.map_set]
  exact hl2
theorem wt_bn_istore_n (h : wt_Ok X cc nL own d Km) {i : Fin 4} {x : Int32} (lv' : List (Option wt_Q)) (hd : decode cc pc = .ok (.istore_n i, 1)) (hin : (i : Nat) < nL) (hl' : lv.set (i : Nat) (some (.inl x)) = lv') (kk : wt_B X k n next U σ (pc + 1) lv' st) : wt_B X k n next U σ pc lv (.inl x :: st) := by
  intro ad H locs ls ce sl h1 h2 hw hS hl
  obtain ⟨ls', e0, hl2⟩ := wt_bst hl (by rw [h.2.2.2.1]; exact hin) hl'
  have e : storeLocals ls (i : Nat) (.int x) = some ls' := e0
  obtain ⟨hexec, hb, -⟩ := h
  show wt_W X H locs ce sl (F0 (wt_xm X) pc ls (.int x :: st.map (wt_qv ad)))
  intro T hT Y
  obtain ⟨t, a, b⟩ := kk ad H locs ls' ce sl h1 h2 hw hS hl2 T hT Y
  refine ⟨t, ?_, b⟩
  jvm_step Y.here [Y.here.top, ↓top_set Y.here.top, hexec, hb, hd, e]
  exact a
theorem wt_bn_iinc (h : wt_Ok X cc nL own d Km) {i : Nat} {z : Int} {x : Int32} (v : Int32) (lv' : List (Option wt_Q)) (hd : decode cc pc = .ok (.iinc i z, 3)) (hin : i < nL) (hg : lv[i]? = some (some (.inl x))) (hv : x + Int32.ofInt z = v) (hl' : lv.set i (some (.inl v)) = lv') (kk : wt_B X k n next U σ (pc + 3) lv' st) : wt_B X k n next U σ pc lv st := by
  intro ad H locs ls ce sl h1 h2 hw hS hl
  subst hv
  obtain ⟨ls', e0, hl2⟩ := wt_bst hl (by rw [h.2.2.2.1]; exact hin) hl'
  have hg2 := wt_bget hl hg
  have e : storeLocals ls i (.int (x + Int32.ofInt z)) = some ls' := e0
  have hg3 : ls[i]? = some (.val (.int x)) := hg2
  obtain ⟨hexec, hb, -⟩ := h
  intro T hT Y
  obtain ⟨t, a, b⟩ := kk ad H locs ls' ce sl h1 h2 hw hS hl2 T hT Y
  refine ⟨t, ?_, b⟩
  jvm_step Y.here [Y.here.top, ↓top_set Y.here.top, hexec, hb, hd, hg3, e]
  exact a
end WB1
/-! a birth -/
def wt_cOk (next : Nat) (L : wt_U) (i : Nat) (e : Nat × Nat × List Nat) : Bool := match e with
  | (0, _, _) => true
  | (1, n, rs) => ! (decide (rs.getD 0 0 ≤ next) && decide (next < rs.getD 0 0 + n))
  | (2, n, rs) => (List.range n).all (fun j => ! (rs.getD 0 0 + rs.getD 1 0 * j == next) || L.contains (i, j))
  | (_ + 3, _, rs) => (List.range rs.length).all (fun q => ! (rs.getD q 0 == next + 1) || L.contains (i, q))
def wt_pOk (next : Nat) (p : Nat × Nat) : Bool := p.1 == next || (match wt_LAY[p.1]? with
  | some (2, _, rs) => rs.getD 0 0 + rs.getD 1 0 * p.2 == next
  | some (_, _, rs) => rs.getD p.2 0 == next + 1
  | none => true)
theorem wt_cont {L U : wt_U} {p : Nat × Nat} : (L ++ U).contains p = (L.contains p || U.contains p) := by
  rw [Bool.eq_iff_iff]
  simp
theorem wt_pe_born {cI cII cS : ClassId} {ad ad' : Nat → Nat} {σ : wt_St} {next j : Nat} {L U : wt_U} {e : Nat × Nat × List Nat} (hj : j < next) (hLe : wt_LAY[j]? = some e) (h1 : wt_cOk next L j e = true) (h2 : L.all (wt_pOk next) = true) (ha : ∀ t, t < next → ad' t = ad t) : wt_pe cI cII cS ad' σ (next + 1) (L ++ U) j = wt_pe cI cII cS ad σ next U j := by
  have hL : ∀ k, L.contains (j, k) = true → wt_pOk next (j, k) = true := fun k hk => List.all_eq_true.mp h2 _ (by simpa using hk)
  unfold wt_pe
  rw [hLe]
  obtain ⟨_ | _ | _ | k, n, rs⟩ := e
  · rfl
  · dsimp only
    refine congrArg _ (congrArg _ (congrArg _ (congrArg _ (congrArg _ (congrArg _ (congrArg _ (funext fun q => ?_)))))))
    simp only [wt_cOk, Bool.not_eq_true', Bool.and_eq_false_iff, decide_eq_false_iff_not] at h1
    by_cases a : q < n
    · by_cases b : rs.getD 0 0 + q < next
      · rw [if_pos ⟨a, Nat.lt_succ_of_lt b⟩, if_pos ⟨a, b⟩, ha _ b]
      · rw [if_neg (fun z => by omega), if_neg (fun z => b z.2)]
    · rw [if_neg (fun z => a z.1), if_neg (fun z => a z.1)]
  · dsimp only
    refine congrArg _ (congrArg _ (congrArg _ (congrArg _ (congrArg _ (congrArg _ (congrArg _ (funext fun q => ?_)))))))
    by_cases a : q < n
    · have h3 := List.all_eq_true.mp h1 q (List.mem_range.mpr a)
      have h4 := hL q
      simp only [wt_pOk, hLe, Bool.or_eq_true, Bool.not_eq_true', beq_iff_eq, beq_eq_false_iff_ne] at h3 h4
      unfold wt_em
      rw [wt_cont]
      generalize rs.getD 0 0 + rs.getD 1 0 * q = t at h3 h4 ⊢
      by_cases b : t = next
      · have h5 := h3.resolve_left (fun z => z b)
        rw [h5, if_neg (by simp), if_neg (by simp [b])]
      · have h5 : L.contains (j, q) = false := by
          cases h6 : L.contains (j, q) with
          | false => rfl
          | true => exact absurd ((h4 h6).resolve_left (by omega)) b
        rw [h5]
        by_cases c : t < next
        · rw [ha t c, decide_eq_false (show ¬ next + 1 ≤ t by omega), decide_eq_false (show ¬ next ≤ t by omega)]
          simp
        · rw [if_neg (by simp [show next + 1 ≤ t by omega]), if_neg (by simp [show next ≤ t by omega])]
    · rw [if_neg (fun z => a z.1), if_neg (fun z => a z.1)]
  · dsimp only
    refine congrArg _ (congrArg _ (List.map_congr_left fun q hq => ?_))
    have h3 := List.all_eq_true.mp h1 q hq
    have h4 := hL q
    simp only [wt_pOk, hLe, Bool.or_eq_true, Bool.not_eq_true', beq_iff_eq, beq_eq_false_iff_ne] at h3 h4
    unfold wt_em wt_fv
    rw [wt_cont]
    generalize rs.getD q 0 = t at h3 h4 ⊢
    by_cases z : t = 0
    · subst z
      simp
    · obtain ⟨u, rfl⟩ : ∃ u, t = u + 1 := ⟨t - 1, by omega⟩
      simp only [Nat.add_sub_cancel]
      by_cases b : u = next
      · have h5 := h3.resolve_left (fun z => z (by omega))
        rw [h5, if_pos ⟨z, by simp⟩, if_pos ⟨z, by simp [b]⟩]
      · have h5 : L.contains (j, q) = false := by
          cases h6 : L.contains (j, q) with
          | false => rfl
          | true => exact absurd ((h4 h6).resolve_left (by omega)) (by omega)
        rw [h5]
        by_cases c : u < next
        · rw [ha u c, decide_eq_false (show ¬ next + 1 ≤ u by omega), decide_eq_false (show ¬ next ≤ u by omega)]
          simp
        · rw [if_pos ⟨z, by simp [show next + 1 ≤ u by omega]⟩, if_pos ⟨z, by simp [show next ≤ u by omega]⟩]
def wt_bOk (next : Nat) (L : wt_U) : Bool := ((wt_LAY.take next).zipIdx.all (fun p => wt_cOk next L p.2 p.1)) && L.all (wt_pOk next)
theorem wt_bOk_use {cI cII cS : ClassId} {ad ad' : Nat → Nat} {σ : wt_St} {next j : Nat} {L U : wt_U} (hn : next ≤ wt_LAY.length) (h : wt_bOk next L = true) (hj : j < next) (ha : ∀ t, t < next → ad' t = ad t) : wt_pe cI cII cS ad' σ (next + 1) (L ++ U) j = wt_pe cI cII cS ad σ next U j := by
  unfold wt_bOk at h
  rw [Bool.and_eq_true] at h
  have hl : j < wt_LAY.length := Nat.lt_of_lt_of_le hj hn
  refine wt_pe_born hj (List.getElem?_eq_getElem hl) ?_ h.2 ha
  refine List.all_eq_true.mp h.1 (wt_LAY[j], j) ?_
  rw [List.mem_iff_getElem?]
  refine ⟨j, ?_⟩
  rw [List.getElem?_zipIdx, List.getElem?_take_of_lt hj, List.getElem?_eq_getElem hl]
  simp
/-- one more cell -/
def wt_grow (ad : Nat → Nat) (next q : Nat) : Nat → Nat := fun j => if j = next then q else ad j
theorem wt_qv_grow {ad : Nat → Nat} {next q : Nat} {v : wt_Q} (h : wt_qlt next v = true) : wt_qv (wt_grow ad next q) v = wt_qv ad v := by
  cases v with
  | inl x => rfl
  | inr j =>
    have : j < next := by simpa [wt_qlt] using h
    show Value.ref _ = Value.ref _
    unfold wt_grow
    rw [if_neg (by omega)]
def wt_lvlt (n : Nat) (lv : List (Option wt_Q)) : Bool := lv.all (fun v => match v with | some q => wt_qlt n q | none => true)
theorem wt_lv_grow {ad : Nat → Nat} {next q : Nat} {lv : List (Option wt_Q)} (h : wt_lvlt next lv = true) : lv.map (Option.map (wt_qv (wt_grow ad next q))) = lv.map (Option.map (wt_qv ad)) := by
  apply List.map_congr_left
  intro v hv
  have := List.all_eq_true.mp h v hv
  cases v with
  | none => rfl
  | some v => exact congrArg some (wt_qv_grow this)
theorem wt_st_grow {ad : Nat → Nat} {next q : Nat} {st : List wt_Q} (h : st.all (wt_qlt next) = true) : st.map (wt_qv (wt_grow ad next q)) = st.map (wt_qv ad) := by
  apply List.map_congr_left
  intro v hv
  exact wt_qv_grow (List.all_eq_true.mp h v hv)
/-- the world after a birth -/
theorem wt_Bw_grow {X : wt_X} {next : Nat} {U L : wt_U} {σ : wt_St} {ad : Nat → Nat} {H H1 : Heap} {q : Nat} {e : va_E} (hn : next < wt_LAY.length) (hb : wt_bOk next L = true) (hw : wt_Bw X next U σ ad H)
    (he : wt_pe (wt_wI (wt_xw X)) (wt_wJ (wt_xw X)) (wt_wS (wt_xw X)) (wt_grow ad next q) σ (next + 1) (L ++ U) next = e) (hP : va_P (wt_wD (wt_xw X)) wt_cl (wt_bw (wt_xw X) ad σ U next ++ [(q, e)]) H1) (hD : va_D (wt_A (wt_xw X) (wt_xs X).heap.size) (wt_bw (wt_xw X) ad σ U next ++ [(q, e)])) : wt_Bw X (next + 1) (L ++ U) σ (wt_grow ad next q) H1 := by
  obtain ⟨w1, -, -, w4⟩ := hw
  have hg : ∀ t, t < next → wt_grow ad next q t = ad t := fun t ht => by
    unfold wt_grow
    rw [if_neg (by omega)]
  have hE : wt_bw (wt_xw X) ad σ U next ++ [(q, e)] = wt_bw (wt_xw X) (wt_grow ad next q) σ (L ++ U) (next + 1) := wt_bw_push (by unfold wt_grow; rw [if_pos rfl]) hg he (fun j hj => wt_bOk_use (Nat.le_of_lt hn) hb hj hg)
  rw [hE] at hP hD
  refine ⟨fun i hi => ⟨(hg i (w1 i hi).2).trans (w1 i hi).1, Nat.lt_succ_of_lt (w1 i hi).2⟩, hP, hD, fun i hi => w4 i (by omega)⟩
theorem wt_pe_zi {cI cII cS : ClassId} {ad : Nat → Nat} {σ : wt_St} {next i n : Nat} {U : wt_U} {rs : List Nat} (h : wt_LAY[i]? = some (0, n, rs)) (hz : wt_zero σ i) : wt_pe cI cII cS ad σ next U i = .inl (cI, n, .inl (fun _ => 0)) := by
  unfold wt_pe
  rw [h]
  dsimp only
  have : wt_ga σ i = fun _ => 0 := funext (hz i (Nat.le_refl _)).2
  rw [this]
/-- an object's fields when it is born -/
def wt_fs0 (rs : List Nat) : List Value := rs.map (fun r => if r = 0 then .int 0 else .null)
def wt_own (next : Nat) (L : wt_U) (rs : List Nat) : Bool := (List.range rs.length).all (fun q => rs.getD q 0 == 0 || decide (next + 2 ≤ rs.getD q 0) || L.contains (next, q))
theorem wt_pe_zo {cI cII cS : ClassId} {ad : Nat → Nat} {σ : wt_St} {next n k : Nat} {L U : wt_U} {rs : List Nat} (h : wt_LAY[next]? = some (k + 3, n, rs)) (hz : wt_zero σ next) (ho : wt_own next L rs = true) : wt_pe cI cII cS ad σ (next + 1) (L ++ U) next = .inr (k, wt_fs0 rs) := by
  unfold wt_pe
  rw [h]
  dsimp only
  refine congrArg _ (congrArg _ ?_)
  apply List.ext_getElem?
  intro q
  by_cases hq : q < rs.length
  · rw [List.getElem?_map, List.getElem?_range hq, wt_fs0, List.getElem?_map, List.getElem?_eq_getElem hq]
    have h3 := List.all_eq_true.mp ho q (List.mem_range.mpr hq)
    have hg : rs.getD q 0 = rs[q] := by simp [List.getD_eq_getElem?_getD, hq]
    simp only [Bool.or_eq_true, beq_iff_eq, decide_eq_true_eq, hg] at h3
    simp only [Option.map_some, hg]
    generalize rs[q] = t at h3 ⊢
    refine congrArg some ?_
    by_cases a : t = 0
    · subst a
      simp [wt_fv, (hz next (Nat.le_refl _)).1]
    · have hh : wt_em (next + 1) (L ++ U) next q (t - 1) = true := by
        unfold wt_em
        rw [wt_cont]
        rcases h3 with (h3 | h3) | h3
        · exact absurd h3 a
        · simp [show next + 1 ≤ t - 1 by omega]
        · rw [h3]; simp
      rw [if_neg a, if_pos ⟨a, hh⟩]
  · rw [List.getElem?_eq_none (by simpa using hq), List.getElem?_eq_none (by simpa [wt_fs0] using hq)]
/-! a place that is filled -/
theorem wt_em_fill {next i k q t : Nat} {U U' : wt_U} {j : Nat} (hU : U.filter (fun p => ! (p == (i, k))) = U') (h : ¬ (j = i ∧ q = k)) : wt_em next U' j q t = wt_em next U j q t := by
  unfold wt_em
  congr 1
  rw [← hU, Bool.eq_iff_iff, List.contains_iff_mem, List.contains_iff_mem, List.mem_filter]
  exact ⟨fun z => z.1, fun z => ⟨z, by simpa using fun a b => h ⟨a, b⟩⟩⟩
theorem wt_em_done {next i k t : Nat} {U U' : wt_U} (hU : U.filter (fun p => ! (p == (i, k))) = U') (ht : t < next) : wt_em next U' i k t = false := by
  unfold wt_em
  rw [← hU]
  simp [ht]
theorem wt_pe_other {cI cII cS : ClassId} {ad : Nat → Nat} {σ : wt_St} {next i k j : Nat} {U U' : wt_U} (hU : U.filter (fun p => ! (p == (i, k))) = U') (h : j ≠ i) : wt_pe cI cII cS ad σ next U' j = wt_pe cI cII cS ad σ next U j := by
  have e : ∀ q t, wt_em next U' j q t = wt_em next U j q t := fun q t => wt_em_fill hU (fun z => h z.1)
  unfold wt_pe
  simp only [e]
theorem wt_pe_sf {cI cII cS : ClassId} {ad : Nat → Nat} {σ : wt_St} {next i k j : Nat} {U : wt_U} {v : Int32} (h : j ≠ i) : wt_pe cI cII cS ad (wt_sf σ i k v) next U j = wt_pe cI cII cS ad σ next U j := by
  have e : ∀ q, wt_gf (wt_sf σ i k v) j q = wt_gf σ j q := fun q => by rw [wt_gf_sf, if_neg (fun z => h z.1)]
  have e2 : wt_ga (wt_sf σ i k v) j = wt_ga σ j := rfl
  unfold wt_pe wt_fv
  simp only [e, e2]
theorem wt_pe_sa {cI cII cS : ClassId} {ad : Nat → Nat} {σ : wt_St} {next i k j : Nat} {U : wt_U} {v : Int32} (h : j ≠ i) : wt_pe cI cII cS ad (wt_sa σ i k v) next U j = wt_pe cI cII cS ad σ next U j := by
  have e : wt_ga (wt_sa σ i k v) j = wt_ga σ j := by
    funext q
    rw [wt_ga_sa, if_neg (fun z => h z.1)]
  have e2 : ∀ q, wt_gf (wt_sa σ i k v) j q = wt_gf σ j q := fun q => rfl
  unfold wt_pe wt_fv
  simp only [e, e2]
def wt_bfs (ad : Nat → Nat) (σ : wt_St) (next : Nat) (U : wt_U) (i : Nat) (rs : List Nat) : List Value := (List.range rs.length).map (fun q => if ¬ rs.getD q 0 = 0 ∧ wt_em next U i q (rs.getD q 0 - 1) = true then .null else wt_fv ad σ i q (rs.getD q 0))
theorem wt_pe_ob {cI cII cS : ClassId} {ad : Nat → Nat} {σ : wt_St} {next i k n : Nat} {U : wt_U} {rs : List Nat} (h : wt_LAY[i]? = some (k + 3, n, rs)) : wt_pe cI cII cS ad σ next U i = .inr (k, wt_bfs ad σ next U i rs) := by
  unfold wt_pe
  rw [h]
  rfl
theorem wt_bfs_get {ad : Nat → Nat} {σ : wt_St} {next i q t : Nat} {U : wt_U} {rs : List Nat} (h : rs[q]? = some t) : (wt_bfs ad σ next U i rs)[q]? = some (if ¬ t = 0 ∧ wt_em next U i q (t - 1) = true then .null else wt_fv ad σ i q t) := by
  have hk := (List.getElem?_eq_some_iff.mp h).1
  unfold wt_bfs
  rw [List.getElem?_map, List.getElem?_range hk]
  simp [List.getD_eq_getElem?_getD, h]
theorem wt_bfs_fill {ad : Nat → Nat} {σ : wt_St} {next i k j : Nat} {U U' : wt_U} {rs : List Nat} (hU : U.filter (fun p => ! (p == (i, k))) = U') (h : rs[k]? = some (j + 1)) (hj : j < next) : (wt_bfs ad σ next U i rs).set k (.ref (ad j)) = wt_bfs ad σ next U' i rs := by
  have hk := (List.getElem?_eq_some_iff.mp h).1
  apply List.ext_getElem?
  intro q
  by_cases hq : q < rs.length
  · by_cases e : q = k
    · subst e
      rw [List.getElem?_set_self (by simpa [wt_bfs] using hk), wt_bfs_get h, wt_em_done hU (by simpa using hj)]
      simp [wt_fv]
    · obtain ⟨t, ht⟩ : ∃ t, rs[q]? = some t := ⟨rs[q], List.getElem?_eq_getElem hq⟩
      rw [List.getElem?_set_ne (fun z => e z.symm), wt_bfs_get ht, wt_bfs_get ht, wt_em_fill hU (fun z => e z.2)]
  · rw [List.getElem?_eq_none (by simpa [wt_bfs] using hq), List.getElem?_eq_none (by simpa [wt_bfs] using hq)]
theorem wt_bfs_int {ad : Nat → Nat} {σ : wt_St} {next i k : Nat} {U : wt_U} {rs : List Nat} {v : Int32} (h : rs[k]? = some 0) : (wt_bfs ad σ next U i rs).set k (.int v) = wt_bfs ad (wt_sf σ i k v) next U i rs := by
  have hk := (List.getElem?_eq_some_iff.mp h).1
  apply List.ext_getElem?
  intro q
  by_cases hq : q < rs.length
  · by_cases e : q = k
    · subst e
      rw [List.getElem?_set_self (by simpa [wt_bfs] using hk), wt_bfs_get h]
      simp [wt_fv, wt_gf_sf]
    · obtain ⟨t, ht⟩ : ∃ t, rs[q]? = some t := ⟨rs[q], List.getElem?_eq_getElem hq⟩
      rw [List.getElem?_set_ne (fun z => e z.symm), wt_bfs_get ht, wt_bfs_get ht]
      simp [wt_fv, wt_gf_sf, e]
  · rw [List.getElem?_eq_none (by simpa [wt_bfs] using hq), List.getElem?_eq_none (by simpa [wt_bfs] using hq)]
section WB2
variable {X : wt_X} {cc : ByteArray} {nL : Nat} {own : String} {d Km k n next : Nat} {U : wt_U} {σ : wt_St} {pc : Nat} {lv : List (Option wt_Q)} {st : List wt_Q}
theorem wt_Asz {X : wt_X} : ∀ q, (wt_xs X).heap.size ≤ q → wt_A (wt_xw X) (wt_xs X).heap.size q := fun _ h => Or.inr h
theorem wt_bn_newarr (h : wt_Ok X cc nL own d Km) (L : wt_U) {z : Int32} {N : Nat} {rs : List Nat} (hw0 : Cond.arrayClass .int ∈ wt_GT) (hL : wt_LAY[next]? = some (0, N, rs)) (hn0 : ¬ z < 0) (hN : z.toNatClampNeg = N) (hb : N ≤ 1000) (hbo : wt_bOk next L = true) (hst : st.all (wt_qlt next) = true) (hlv : wt_lvlt next lv = true) (hk : k + 1 ≤ Km) (hn : n + N ≤ 16 * Km) (hd : decode cc pc = .ok (.newarray .int, 2))
    (kk : wt_B X (k + 1) (n + N) (next + 1) (L ++ U) σ (pc + 2) lv (.inr next :: st)) : wt_B X k n next U σ pc lv (.inl z :: st) := by
  intro ad H locs ls ce sl h1 h2 hw hS hl
  have hw' := hw
  obtain ⟨w1, w2, w3, w4⟩ := hw
  have hKK := h.2.2.2.2.2.2.1
  have r3 := h.2.2.2.2.2.2.2.2.2.2.1
  have r4 := h.2.2.2.2.2.2.2.2.2.2.2.1
  refine va_newa (atype := .int) (ty := .int) (N' := N) (a0 := (N, .inl (fun _ => 0))) h.1 h.2.1 (h.2.2.2.2.2.1 _ hw0) rfl hKK w2 w3 hS wt_Asz (fun cA => vp_cell_i cA N (fun _ => 0)) hn0 hN (by show N * 4 ≤ _; omega) (by omega) (by omega) hd fun q cA H1 g1 g2 g3 g4 => ?_
  have e1 := (hKK.2 0 _ rfl).2
  have e2 := (g1.2 3 (cA, .int) rfl).2
  have e3 : wt_wI (wt_xw X) = cA := Option.some.inj (e1.symm.trans e2)
  subst e3
  have hlt : next < wt_LAY.length := (List.getElem?_eq_some_iff.mp hL).1
  have := kk (wt_grow ad next q) H1 locs ls (ce + 1) (sl + N) (by omega) (by omega) (wt_Bw_grow hlt hbo hw' (wt_pe_zi hL w4) g2 g3) g4 (by rw [wt_lv_grow hlv]; exact hl)
  have e4 : (Sum.inr next :: st : List wt_Q).map (wt_qv (wt_grow ad next q)) = .ref q :: st.map (wt_qv ad) := by
    rw [List.map_cons, wt_st_grow hst]
    refine congrArg (· :: _) ?_
    show Value.ref _ = _
    unfold wt_grow
    rw [if_pos rfl]
  rw [e4] at this
  exact this
theorem wt_bn_new (h : wt_Ok X cc nL own d Km) (L : wt_U) {idx ci m N : Nat} {C : String} {T : u_T} {ty : Nat → FieldType} {rs : List Nat} (hcf : wt_CF C T N ty) (hc : wt_cl[ci]? = some (C, T, N)) (hl0 : Cond.classLink own idx C ∈ wt_GT) (hi0 : Cond.instantiable C N ∈ wt_GT) (hj0 : Cond.initialized C ∈ wt_GT) (hfs : ∀ j, j < N → defaultValue (ty j) = vp_V (wt_fs0 rs) j)
    (hL : wt_LAY[next]? = some (ci + 3, m, rs)) (hbo : wt_bOk next L = true) (hown : wt_own next L rs = true) (hst : st.all (wt_qlt next) = true) (hlv : wt_lvlt next lv = true) (hk : k + 1 ≤ Km) (hn : n + N ≤ 16 * Km) (hd : decode cc pc = .ok (.new idx, 3))
    (kk : wt_B X (k + 1) (n + N) (next + 1) (L ++ U) σ (pc + 3) lv (.inr next :: st)) : wt_B X k n next U σ pc lv st := by
  intro ad H locs ls ce sl h1 h2 hw hS hl
  have hw' := hw
  obtain ⟨w1, w2, w3, w4⟩ := hw
  have hKK := h.2.2.2.2.2.2.1
  have hts := h.2.2.2.2.2.1
  have r3 := h.2.2.2.2.2.2.2.2.2.2.1
  have r4 := h.2.2.2.2.2.2.2.2.2.2.2.1
  refine va_new h.1 h.2.1 hts hcf.1 ty hcf.2.1 h.2.2.2.2.1 (hts _ hl0) (hts _ hi0) (hts _ hj0) hKK w2 w3 hS wt_Asz hc hfs (by omega) (by omega) hd fun q H1 g2 g3 g4 => ?_
  have hlt : next < wt_LAY.length := (List.getElem?_eq_some_iff.mp hL).1
  have := kk (wt_grow ad next q) H1 locs ls (ce + 1) (sl + N) (by omega) (by omega) (wt_Bw_grow hlt hbo hw' (wt_pe_zo hL w4 hown) g2 g3) g4 (by rw [wt_lv_grow hlv]; exact hl)
  have e4 : (Sum.inr next :: st : List wt_Q).map (wt_qv (wt_grow ad next q)) = .ref q :: st.map (wt_qv ad) := by
    rw [List.map_cons, wt_st_grow hst]
    refine congrArg (· :: _) ?_
    show Value.ref _ = _
    unfold wt_grow
    rw [if_pos rfl]
  rw [e4] at this
  exact this
/-- Object's own constructor -/
theorem wt_bn_obj (h : wt_Ok X cc nL own d Km) {idx j : Nat} (hl0 : Cond.methodLink own idx Lib.objectInit ∈ wt_GT) (hi0 : Cond.instanceMethod Lib.objectInit ∈ wt_GT) (hc0 : Cond.code Lib.objectInit ⟨#[0xb1]⟩ 1 none ∈ wt_GT) (hd1 : 1 ≤ d) (hst : st.length ≤ 8) (hd : decode cc pc = .ok (.invokespecial idx, 3)) (kk : wt_B X k n next U σ (pc + 3) lv st) : wt_B X k n next U σ pc lv (.inr j :: st) := by
  intro ad H locs ls ce sl h1 h2 hw hS hl
  have hts := h.2.2.2.2.2.1
  have r1 := h.2.2.2.2.2.2.2.2.1
  have r2 := h.2.2.2.2.2.2.2.2.2.1
  refine W.objInit h.1 h.2.1 h.2.2.2.2.1 (hts _ hl0) (hts _ hi0) (hts _ hc0) rfl (by show ls.size = _; rw [hl.1, h.2.2.2.1, h.2.2.1]) rfl hd (by omega) ?_ (kk ad H locs ls ce sl h1 h2 hw hS hl)
  have e : ((st.map (wt_qv ad)).map fun v => v.category).sum = st.length := by
    clear hst kk hd
    induction st with
    | nil => rfl
    | cons a st ih =>
      rw [List.map_cons, List.map_cons, List.sum_cons, ih, List.length_cons]
      have : (wt_qv ad a).category = 1 := by cases a <;> rfl
      omega
  rw [e]
  show 2 * 0 + _ + 12 ≤ _
  omega
theorem wt_bn_putr (h : wt_Ok X cc nL own d Km) {i kf j idx ci m N : Nat} {T : u_T} {ty : Nat → FieldType} {rs : List Nat} (U' : wt_U) (hin : (wt_xM X).name = "<init>") (hcf : wt_CF own T N ty) (hc : wt_cl[ci]? = some (own, T, N)) (hkN : kf < N) (hC : (T kf).1 = own) (hfin : (T kf).2.2.2 = true) (hl0 : Cond.fieldLink own idx own (T kf).2.1 (T kf).2.2.1 ∈ wt_GT)
    (hn : ∀ a, narrow (ty kf) (.ref a) = .ref a) (hfit : ∀ a, fits (ty kf) (.ref a) = true) (hL : wt_LAY[i]? = some (ci + 3, m, rs)) (hrs : rs[kf]? = some (j + 1)) (hi : i < next) (hj : j < next) (hU : U.filter (fun p => ! (p == (i, kf))) = U') (hd : decode cc pc = .ok (.putfield idx, 3)) (kk : wt_B X k n next U' σ (pc + 3) lv st) : wt_B X k n next U σ pc lv (.inr j :: .inr i :: st) := by
  intro ad H locs ls ce sl h1 h2 hw hS hl
  obtain ⟨w1, w2, w3, w4⟩ := hw
  have hKK := h.2.2.2.2.2.2.1
  have hts := h.2.2.2.2.2.1
  have hg := wt_bw_get (w := wt_xw X) (ad := ad) (σ := σ) (U := U) hi
  rw [wt_pe_ob hL] at hg
  have hlen : kf < (wt_bfs ad σ next U i rs).length := by simpa [wt_bfs] using (List.getElem?_eq_some_iff.mp hrs).1
  refine va_putF h.1 h.2.1 hts hcf.1 ty hcf.2.1 hcf.2.2 h.2.2.2.2.1 hKK w2 w3 hS i hg hc kf hkN (hts _ hl0) (fun x hx => by rw [hC] at hx; exact hx) hfin hin hC (hcf.2.1 kf hkN) (v := .ref (ad j)) (hn (ad j)) (hfit (ad j)) hlen hd fun H1 locs1 g1 g2 g3 => ?_
  have e := wt_bw_set (w := wt_xw X) (ad := ad) (σ := σ) (σ' := σ) (U := U) (U' := U') hi ((wt_pe_ob hL).trans (congrArg (fun z => Sum.inr (ci, z)) (wt_bfs_fill (σ := σ) (ad := ad) hU hrs hj).symm)) (fun q _ hq => wt_pe_other hU hq)
  rw [e] at g1 g2
  exact kk ad H1 locs1 ls ce sl h1 h2 ⟨w1, g1, g2, w4⟩ g3 hl
theorem wt_zero.sf {σ : wt_St} {next i k : Nat} {v : Int32} (h : wt_zero σ next) (hi : i < next) : wt_zero (wt_sf σ i k v) next := fun j hj => ⟨fun q => by rw [wt_gf_sf, if_neg (fun z => by omega)]; exact (h j hj).1 q, (h j hj).2⟩
theorem wt_zero.sa {σ : wt_St} {next i k : Nat} {v : Int32} (h : wt_zero σ next) (hi : i < next) : wt_zero (wt_sa σ i k v) next := fun j hj => ⟨(h j hj).1, fun q => by rw [wt_ga_sa, if_neg (fun z => by omega)]; exact (h j hj).2 q⟩
theorem wt_bn_puti (h : wt_Ok X cc nL own d Km) {i kf idx ci m N : Nat} {T : u_T} {ty : Nat → FieldType} {rs : List Nat} {v : Int32} (hcf : wt_CF own T N ty) (hc : wt_cl[ci]? = some (own, T, N)) (hkN : kf < N) (hC : (T kf).1 = own) (hfin : (T kf).2.2.2 = false) (hl0 : Cond.fieldLink own idx own (T kf).2.1 (T kf).2.2.1 ∈ wt_GT)
    (hty : ty kf = .int) (hL : wt_LAY[i]? = some (ci + 3, m, rs)) (hrs : rs[kf]? = some 0) (hi : i < next) (hd : decode cc pc = .ok (.putfield idx, 3)) (kk : wt_B X k n next U (wt_sf σ i kf v) (pc + 3) lv st) : wt_B X k n next U σ pc lv (.inl v :: .inr i :: st) := by
  intro ad H locs ls ce sl h1 h2 hw hS hl
  obtain ⟨w1, w2, w3, w4⟩ := hw
  have hKK := h.2.2.2.2.2.2.1
  have hts := h.2.2.2.2.2.1
  have hg := wt_bw_get (w := wt_xw X) (ad := ad) (σ := σ) (U := U) hi
  rw [wt_pe_ob hL] at hg
  have hlen : kf < (wt_bfs ad σ next U i rs).length := by simpa [wt_bfs] using (List.getElem?_eq_some_iff.mp hrs).1
  refine va_put h.1 h.2.1 hts hcf.1 ty hcf.2.1 hcf.2.2 h.2.2.2.2.1 hKK w2 w3 hS i hg hc kf hkN (hts _ hl0) (fun x hx => by rw [hC] at hx; exact hx) hfin (hcf.2.1 kf hkN) (v := .int v) (by rw [hty]; rfl) (by rw [hty]; rfl) hlen hd fun H1 locs1 g1 g2 g3 => ?_
  have e := wt_bw_set (w := wt_xw X) (ad := ad) (σ := σ) (σ' := wt_sf σ i kf v) (U := U) (U' := U) hi ((wt_pe_ob hL).trans (congrArg (fun z => Sum.inr (ci, z)) (wt_bfs_int (σ := σ) (ad := ad) hrs).symm)) (fun q _ hq => wt_pe_sf hq)
  rw [e] at g1 g2
  exact kk ad H1 locs1 ls ce sl h1 h2 ⟨w1, g1, g2, w4.sf hi⟩ g3 hl
theorem wt_bn_getr (h : wt_Ok X cc nL own d Km) {i kf j idx ci m N : Nat} {C : String} {T : u_T} {ty : Nat → FieldType} {rs : List Nat} (hcf : wt_CF C T N ty) (hc : wt_cl[ci]? = some (C, T, N)) (hkN : kf < N) (hC : (T kf).1 = C) (hl0 : Cond.fieldLink own idx C (T kf).2.1 (T kf).2.2.1 ∈ wt_GT)
    (hL : wt_LAY[i]? = some (ci + 3, m, rs)) (hrs : rs[kf]? = some (j + 1)) (hi : i < next) (hU : wt_em next U i kf j = false) (hd : decode cc pc = .ok (.getfield idx, 3)) (kk : wt_B X k n next U σ (pc + 3) lv (.inr j :: st)) : wt_B X k n next U σ pc lv (.inr i :: st) := by
  intro ad H locs ls ce sl h1 h2 hw hS hl
  have hg := wt_bw_get (w := wt_xw X) (ad := ad) (σ := σ) (U := U) hi
  rw [wt_pe_ob hL] at hg
  have hv := wt_bfs_get (ad := ad) (σ := σ) (next := next) (i := i) (U := U) hrs
  rw [Nat.add_sub_cancel, hU, if_neg (by simp)] at hv
  exact va_get h.1 h.2.1 h.2.2.2.2.2.1 hcf.1 h.2.2.2.2.1 h.2.2.2.2.2.2.1 hw.2.1 i hg hc kf hkN (h.2.2.2.2.2.1 _ hl0) (fun x hx => by rw [hC] at hx; exact hx) hv hd (kk ad H locs ls ce sl h1 h2 hw hS hl)
/-! the contract of a constructor -/
def wt_PcB (w : wt_E) (S : wt_SP) (av : List Value) (σ : wt_St) (U : wt_U) (n0 : Nat) (sz : Nat) : Array Value → State → Prop := va_Pc av (fun V => V.heap.size = sz ∧ (va_P (wt_wD w) wt_cl (wt_bw w (wt_ad w) σ U n0) V.heap ∧ va_D (wt_A w sz) (wt_bw w (wt_ad w) σ U n0)) ∧ va_K (wt_wD w) wt_cl (wt_tys w) V ∧ wt_NW V ∧ wt_FX (wt_A w sz) V V.heap ∧ S (wt_A w sz) V V.heap)
def wt_QcB (w : wt_E) (n0 n1 : Nat) (U' : wt_U) (σ' : wt_St) (sz : Nat) : Array Value → State → Outcome → State → Prop := fun _ st oc t => (oc = .returned none ∧ ∃ ad' : Nat → Nat, (∀ i, i < n0 → ad' i = wt_ad w i) ∧ va_P (wt_wD w) wt_cl (wt_bw w ad' σ' U' n1) t.heap ∧ va_D (wt_A w sz) (wt_bw w ad' σ' U' n1)) ∧ va_F (wt_A w sz) st t
abbrev wt_rmB (d k : Nat) : Room := { frames := d, cells := k, slots := 16 * k, locals := 64 * d }
def wt_CtrB (S : wt_SP) (l : Launch) (w : wt_E) (y : MethodName) (b : ByteArray) (n : Nat) (d k : Nat) (av : List wt_Q) (n0 n1 : Nat) (U U' : wt_U) (σ σ' : wt_St) : Prop := ∀ sz : Nat, Met l y (wt_ws y b n none) (wt_rmB d k) (wt_PcB w S (av.map (wt_qv (wt_ad w))) σ U n0 sz) (wt_QcB w n0 n1 U' σ' sz) k (16 * k) (wt_A w sz)
def wt_RtB (X : wt_X) (n0 n1 k : Nat) (U' : wt_U) (σ' : wt_St) : Prop := (wt_xM X).sig.returnType = none ∧ (wt_xM X).name = "<init>" ∧ (∀ i, wt_dom (wt_xw X) i ↔ i < n0) ∧ wt_xQ X = MQ (wt_xb X) (wt_QcB (wt_xw X) n0 n1 U' σ' (wt_xs X).heap.size) (wt_xa X) (wt_xs X) k (16 * k) (wt_A (wt_xw X) (wt_xs X).heap.size)
theorem wt_blindB (w : wt_E) {S : wt_SP} (hS : wt_Fx S) (av : List Value) (σ : wt_St) (U0 : wt_U) (n0 sz : Nat) : FrameBlind (wt_PcB w S av σ U0 n0 sz) := fun a U g mk q => by
  obtain ⟨q0, q1, qP, qK, qN, qF, qS⟩ := q
  exact ⟨q0, q1, qP, va_K.moved (u := U) (U := U.calling g mk a) (Vm.Alike.refl U.vm) qK, wt_NW.same (u := U) (U := U.calling g mk a) rfl qN, wt_FX_fx.2.2.2 _ U (U.calling g mk a) _ rfl qF, hS.2.2.2 _ U (U.calling g mk a) _ rfl qS⟩
theorem wt_bn_ret (h : wt_Ok X cc nL own d Km) {n0 : Nat} {k0 : Nat} (hR : wt_RtB X n0 next k0 U σ) (hk : k ≤ k0) (hn : n ≤ 16 * k0) (hd : decode cc pc = .ok (.return_, 1)) : wt_B X k n next U σ pc lv [] := by
  intro ad H locs ls ce sl h1 h2 hw hS hl
  obtain ⟨hr, hi, hdm, hQ⟩ := hR
  show W _ _ _ _ _ _ _ _ _ _ _ _ _ _ (wt_xQ X) _
  rw [hQ]
  refine W.widen (k := k0) (n := 16 * k0) (by omega) (by omega) ?_
  exact W.vret h.1 h.2.1 hr (fun t ht hW => ⟨⟨rfl, ad, fun i hi => (hw.1 i ((hdm i).mpr hi)).1, by rw [ht]; exact hw.2.1, hw.2.2.1⟩, hS.F ht⟩) hS.2.2 hd h.2.2.2.2.2.2.2.2.2.2.2.2.1
end WB2
theorem wt_args_lo {av : List Value} {n : Nat} (hc : av.all (fun v => v.category == 1) = true) (hle : (lg_sl av).length ≤ n) : wt_lo (lg_sl av ++ List.replicate (n - (lg_sl av).length) Slot.unset).toArray n (av.map some ++ List.replicate (n - av.length) none) := by
  have hl := lv_entry av (n := n) hle
  generalize (lg_sl av ++ List.replicate (n - (lg_sl av).length) Slot.unset).toArray = ls at hl ⊢
  refine ⟨hl.1, hl.2.1, fun j v hj => ?_⟩
  by_cases hj2 : j < av.length
  · rw [List.getElem?_append_left (by simpa using hj2), List.getElem?_map] at hj
    have hv2 : av[j]? = some v := by
      cases hv3 : av[j]? with
      | none => rw [hv3] at hj; cases hj
      | some z => rw [hv3] at hj; cases hj; rfl
    refine ⟨?_, ?_⟩
    · have := List.all_eq_true.mp hc v (List.mem_of_getElem? hv2)
      simpa using this
    · have := hl.2.2 _ (wt_args hc 0 j v hv2)
      simpa using this
  · rw [List.getElem?_append_right (by simpa using hj2)] at hj
    have := List.mem_of_getElem? hj
    rw [List.mem_replicate] at this
    cases this.2
theorem wt_qcat {ad : Nat → Nat} (av : List wt_Q) : (av.map (wt_qv ad)).all (fun v => v.category == 1) = true := by
  rw [List.all_map, List.all_eq_true]
  intro v _
  cases v <;> rfl
theorem wt_qsl {ad : Nat → Nat} (av : List wt_Q) : (lg_sl (av.map (wt_qv ad))).length = av.length := by
  induction av with
  | nil => rfl
  | cons a av ih =>
    have e : lg_sl ((a :: av).map (wt_qv ad)) = Slot.val (wt_qv ad a) :: lg_sl (av.map (wt_qv ad)) := by cases a <;> rfl
    rw [e, List.length_cons, ih, List.length_cons]
theorem wt_ctrB {S : wt_SP} {l : Launch} {w : wt_E} {y : MethodName} {b : ByteArray} {n d k : Nat} {av : List wt_Q} {n0 n1 : Nat} {U U' : wt_U} {σ σ' : wt_St} (hdm : ∀ i, wt_dom w i ↔ i < n0) (hz : wt_zero σ n0) (hy : plainName y.cls = true) (hyi : y.name = "<init>") (hle : av.length ≤ n) (lv : List (Option wt_Q)) (hlv : lv = av.map some ++ List.replicate (n - av.length) none)
    (body : ∀ X : wt_X, wt_xl X = l → wt_xw X = w → wt_Ok X b n y.cls d k → wt_RtB X n0 n1 k U' σ' → S (wt_A (wt_xw X) (wt_xs X).heap.size) (wt_xs X) (wt_xs X).heap → wt_B X 0 0 n0 U σ 0 lv []) : wt_CtrB S l w y b n d k av n0 n1 U U' σ σ' := by
  intro sz
  refine Met.ofW (cc := b) (maxL := n) (ret := none) hy rfl ?_
  intro p e s m args below meth c s₁ B hml hv
  obtain ⟨rfl, hsz, ⟨hP, hD⟩, hK, hN, hF, hS⟩ := hv
  have hts := atoms_spec (ws := wt_ws y b n none) B.pre
  have hown : s.vm.findClass y.cls = some m.cls := findClass_of_methodNamed B.named
  have hnm : meth.name = "<init>" := (name_of_methodNamed B.named B.method).1.trans hyi
  subst hsz
  rw [lg_entry_eq]
  have hlo := wt_args_lo (n := n) (wt_qcat (ad := wt_ad w) av) (by rw [wt_qsl]; exact hle)
  have hlv2 : (av.map (wt_qv (wt_ad w))).map some ++ List.replicate (n - (av.map (wt_qv (wt_ad w))).length) none = lv.map (Option.map (wt_qv (wt_ad w))) := by
    rw [hlv, List.map_append, List.map_map, List.map_map, List.map_replicate, List.length_map]
    rfl
  rw [hlv2] at hlo
  exact body ((p, l, e, (headSpec (wt_ws y b n none) (wt_rmB d k)).room, s, m, (av.map (wt_qv (wt_ad w))).toArray, below, meth, c), w, n, _) rfl rfl ⟨B.exec, B.bytes, hml, rfl, hown, fun z hz => hts z (List.mem_cons_of_mem _ hz), hK, hN, Nat.le_refl _, Nat.le_refl _, Nat.le_refl _, Nat.le_refl _, B.notSynchronized, hF⟩ ⟨B.returns, hnm, hdm, rfl⟩ hS (wt_ad w) s.heap [] _ 0 0 (Nat.le_refl _) (Nat.le_refl _) ⟨fun i hi => ⟨rfl, (hdm i).mp hi⟩, hP, hD, hz⟩ va_S.rf hlo
section WB3
variable {X : wt_X} {cc : ByteArray} {nL : Nat} {own : String} {d Km k n next : Nat} {U : wt_U} {σ : wt_St} {pc : Nat} {lv : List (Option wt_Q)} {st : List wt_Q}
abbrev wt_at (w : wt_E) (ad : Nat → Nat) (P : Nat → Prop) : wt_E := (wt_wD w, wt_wI w, wt_wJ w, wt_wS w, ad, P)
theorem wt_qcsum {ad : Nat → Nat} (st : List wt_Q) : ((st.map (wt_qv ad)).map fun v => v.category).sum = st.length := by
  induction st with
  | nil => rfl
  | cons a st ih =>
    rw [List.map_cons, List.map_cons, List.sum_cons, ih, List.length_cons]
    have : (wt_qv ad a).category = 1 := by cases a <;> rfl
    omega
theorem wt_same_lv {ad ad' : Nat → Nat} {next : Nat} {lv : List (Option wt_Q)} (ha : ∀ i, i < next → ad' i = ad i) (h : wt_lvlt next lv = true) : lv.map (Option.map (wt_qv ad')) = lv.map (Option.map (wt_qv ad)) := by
  apply List.map_congr_left
  intro v hv
  have h2 := List.all_eq_true.mp h v hv
  rcases v with - | x | j
  · rfl
  · rfl
  · have : j < next := by simpa [wt_qlt] using h2
    show some (Value.ref _) = some (Value.ref _)
    rw [ha j this]
theorem wt_same_st {ad ad' : Nat → Nat} {next : Nat} {st : List wt_Q} (ha : ∀ i, i < next → ad' i = ad i) (h : st.all (wt_qlt next) = true) : st.map (wt_qv ad') = st.map (wt_qv ad) := by
  apply List.map_congr_left
  intro v hv
  have h2 := List.all_eq_true.mp h v hv
  rcases v with x | j
  · rfl
  · have : j < next := by simpa [wt_qlt] using h2
    show Value.ref _ = Value.ref _
    rw [ha j this]
theorem wt_bn_callI (h : wt_Ok X cc nL own d Km) {S : wt_SP} (hSx : wt_Fx S) (hS0 : S (wt_A (wt_xw X) (wt_xs X).heap.size) (wt_xs X) (wt_xs X).heap) {idx : Nat} {y : MethodName} {b : ByteArray} {m kk0 dd k2 n1 j : Nat} {As st0 : List wt_Q} {U' : wt_U} {σ' : wt_St} (hyi : y.name = "<init>") (hl0 : Cond.methodLink own idx y ∈ wt_GT) (hi0 : Cond.instanceMethod y ∈ wt_GT) (hj0 : Cond.initialized y.cls ∈ wt_GT) (hy : wt_Ya y b m none kk0)
    (hc : ∀ ad : Nat → Nat, wt_CtrB S (wt_xl X) (wt_at (wt_xw X) ad (fun i => i < next)) y b m dd k2 (.inr j :: As) next n1 U U' σ σ') (hd1 : dd + 1 ≤ d) (hlen : As.length = kk0) (hst : As.reverse ++ .inr j :: st = st0) (hro : st.length ≤ 8) (hk : k + k2 ≤ Km) (hn : n + 16 * k2 ≤ 16 * Km) (hn1 : next ≤ n1) (hz : wt_zero σ' n1) (hq : st.all (wt_qlt next) = true) (hlv : wt_lvlt next lv = true) (hd : decode cc pc = .ok (.invokespecial idx, 3))
    (kk : wt_B X (k + k2) (n + 16 * k2) n1 U' σ' (pc + 3) lv st) : wt_B X k n next U σ pc lv st0 := by
  intro ad H locs ls ce sl h1 h2 hw hS hl
  obtain ⟨hx, hb, hml, hn0, hown, hts, hKK, hN, r1, r2, r3, r4, hlk, hFX⟩ := id h
  obtain ⟨w1, w2, w3, w4⟩ := hw
  have hA : ∀ i, i < next → wt_A (wt_xw X) (wt_xs X).heap.size (ad i) := fun i hi => w3.2 i _ (wt_bw_get hi)
  have hAA : ∀ q : Nat, wt_A (wt_at (wt_xw X) ad (fun i => i < next)) H.size q → wt_A (wt_xw X) (wt_xs X).heap.size q := fun q hq => by
    rcases hq with ⟨i, hi, rfl⟩ | hq
    · exact hA i hi
    · exact Or.inr (Nat.le_trans hS.1 hq)
  have hps : PreS (wt_xs X) H (wt_PcB (wt_at (wt_xw X) ad (fun i => i < next)) S ((.inr j :: As : List wt_Q).map (wt_qv ad)) σ U next H.size) ((.inr j :: As : List wt_Q).map (wt_qv ad)) := ⟨wt_blindB _ hSx _ _ _ _ _, fun V hV hW => by
    subst hV
    exact ⟨rfl, rfl, ⟨w2, w3.1, fun i q hi => by
      have hl2 : i < next := by
        have := (List.getElem?_eq_some_iff.mp hi).1
        simpa [wt_bw] using this
      rw [wt_bw_get hl2] at hi
      cases hi
      exact Or.inl ⟨i, hl2, rfl⟩⟩, va_K.moved hW.alike hKK, hN.warm hW, wt_FX_fx.2.2.1 _ _ _ _ hW (wt_FX_fx.2.1 _ _ _ _ (wt_FX_fx.1 _ _ _ _ hFX hS.2.1) hAA), hSx.2.2.1 _ _ _ _ hW (hSx.2.1 _ _ _ _ (hSx.1 _ _ _ _ hS0 hS.2.1) hAA)⟩⟩
  have hfix : CallFix (wt_xp X) (wt_xm X) (wt_xc X) cc nL (wt_xs X) (wt_xa X) wt_GT own := ⟨hx, hb, hml, hown, hts⟩
  have hroo : (wt_rmB dd k2).frames + 1 ≤ (wt_xR X).frames ∧ 8 + (m + 11) + (wt_rmB dd k2).locals ≤ (wt_xR X).locals := by
    have := hy.2.2
    exact ⟨by show dd + 1 ≤ _; omega, by show 8 + (m + 11) + 64 * dd ≤ _; omega⟩
  have hsz : ls.size = nL := by rw [hl.1, hn0]
  have hst2 : st0.map (wt_qv ad) = (As.map (wt_qv ad)).reverse ++ .ref (ad j) :: st.map (wt_qv ad) := by
    rw [← hst, List.map_append, List.map_reverse]
    rfl
  have run := va_runI hfix (hc ad H.size) (index := idx) (n := kk0) (As := As.map (wt_qv ad)) (b := ad j) (rest := st.map (wt_qv ad)) (g := F0 (wt_xm X) pc ls (st0.map (wt_qv ad))) (cells := ce) (slots := sl) (locs := locs) (p := wt_xp X) (e := wt_xe X) (below := wt_xb X) (meth := wt_xM X)
    ⟨callB_of kk0 hts (wt_goodG h hy.2.1) rfl rfl rfl (hts _ hj0) (hts _ hl0) hy.1 hroo, hyi, hts _ hi0⟩ hps rfl (by rw [List.length_map]; exact hlen) hsz hst2 (by show 2 * 0 + _ ≤ 8; rw [wt_qcsum]; omega) hd ⟨by omega, by omega⟩
  intro T hT Y
  obtain ⟨v, s0, t, T', L, e0, Y', hL, e1, e2, ⟨⟨hv, ad', ha, hP, hD⟩, hz2, hk2⟩, stp⟩ := run T hT Y
  cases hv
  rw [e0] at hz2 hk2
  obtain ⟨t2, a1, b1⟩ := kk ad' T'.heap (locs ++ L) ls (ce + k2) (sl + 16 * k2) (by omega) (by omega)
    ⟨fun i hi => ⟨(ha i (w1 i hi).2).trans (w1 i hi).1, Nat.lt_of_lt_of_le (w1 i hi).2 hn1⟩, by rw [e1]; exact hP, ⟨hD.1, fun i q hi => hAA _ (hD.2 i q hi)⟩, hz⟩
    ⟨Nat.le_trans hS.1 (by rw [e1]; exact hz2), fun q g1 g2 => by
      rw [e1, hk2 q (Nat.lt_of_lt_of_le g1 hS.1) (fun z => g2 (hAA q z))]
      exact hS.2.1 q g1 g2, fun q hq => by
      rcases List.mem_append.mp hq with g | g
      · exact hS.2.2 q g
      · exact hAA _ (hL q g)⟩ (by rw [wt_same_lv ha hlv]; exact hl) T' rfl Y'
  rw [wt_same_st ha hq] at a1
  exact ⟨t2, stp t2 a1, b1⟩
theorem wt_bn_alen (h : wt_Ok X cc nL own d Km) {i m : Nat} {rs : List Nat} (v : Int32) (hL : wt_LAY[i]? = some (0, m, rs)) (hi : i < next) (hv : Int32.ofNat m = v) (hd : decode cc pc = .ok (.arraylength, 1)) (kk : wt_B X k n next U σ (pc + 1) lv (.inl v :: st)) : wt_B X k n next U σ pc lv (.inr i :: st) := by
  intro ad H locs ls ce sl h1 h2 hw hS hl
  have hg := wt_bw_get (w := wt_xw X) (ad := ad) (σ := σ) (U := U) hi
  have e : wt_pe (wt_wI (wt_xw X)) (wt_wJ (wt_xw X)) (wt_wS (wt_xw X)) ad σ next U i = .inl (wt_wI (wt_xw X), m, .inl (wt_ga σ i)) := by
    unfold wt_pe
    rw [hL]
  rw [e] at hg
  exact va_alen h.1 h.2.1 h.2.2.2.2.2.2.1 hw.2.1 i 0 hg rfl hv hd (kk ad H locs ls ce sl h1 h2 hw hS hl)
theorem wt_bn_iast (h : wt_Ok X cc nL own d Km) {r m : Nat} {rs : List Nat} {i x : Int32} (hL : wt_LAY[r]? = some (0, m, rs)) (hr : r < next) (hin : vp_in i m) (hd : decode cc pc = .ok (.iastore, 1)) (kk : wt_B X k n next U (wt_sa σ r i.toNatClampNeg x) (pc + 1) lv st) : wt_B X k n next U σ pc lv (.inl x :: .inl i :: .inr r :: st) := by
  intro ad H locs ls ce sl h1 h2 hw hS hl
  obtain ⟨w1, w2, w3, w4⟩ := hw
  have hg := wt_bw_get (w := wt_xw X) (ad := ad) (σ := σ) (U := U) hr
  have e : ∀ s2 : wt_St, wt_pe (wt_wI (wt_xw X)) (wt_wJ (wt_xw X)) (wt_wS (wt_xw X)) ad s2 next U r = .inl (wt_wI (wt_xw X), m, .inl (wt_ga s2 r)) := fun s2 => by
    unfold wt_pe
    rw [hL]
  rw [e] at hg
  refine va_iast h.1 h.2.1 h.2.2.2.2.2.2.1 w2 w3 hS r 0 hg rfl hin hd fun H1 locs1 g1 g2 g3 => ?_
  have e2 := wt_bw_set (w := wt_xw X) (ad := ad) (σ := σ) (σ' := wt_sa σ r i.toNatClampNeg x) (U := U) (U' := U) (e := .inl (wt_wI (wt_xw X), m, .inl (upd (wt_ga σ r) i.toNatClampNeg x))) hr (by
    rw [e]
    refine congrArg _ (congrArg _ (congrArg _ (congrArg _ (funext fun q => ?_))))
    by_cases hq : q = i.toNatClampNeg
    · subst hq
      simp [upd, wt_ga_sa]
    · simp [upd, wt_ga_sa, hq]) (fun q _ hq => wt_pe_sa hq)
  rw [e2] at g1 g2
  exact kk ad H1 locs1 ls ce sl h1 h2 ⟨w1, g1, g2, w4.sa hr⟩ g3 hl
theorem wt_bn_anew (h : wt_Ok X cc nL own d Km) (hov : (Cond.arrayOver (.object "WornType$State")).before (wt_xa X) (wt_xs X) = true) (L : wt_U) {idx : Nat} {z : Int32} {N : Nat} {rs : List Nat} (hl0 : Cond.classLink own idx "WornType$State" ∈ wt_GT) (hL : wt_LAY[next]? = some (2, N, rs)) (hn0 : ¬ z < 0) (hN : z.toNatClampNeg = N) (hb : N ≤ 1000) (hbo : wt_bOk next L = true) (hem : (List.range N).all (fun j => wt_em (next + 1) (L ++ U) next j (rs.getD 0 0 + rs.getD 1 0 * j)) = true) (hst : st.all (wt_qlt next) = true) (hlv : wt_lvlt next lv = true) (hk : k + 1 ≤ Km) (hn : n + N ≤ 16 * Km) (hd : decode cc pc = .ok (.anewarray idx, 3))
    (kk : wt_B X (k + 1) (n + N) (next + 1) (L ++ U) σ (pc + 3) lv (.inr next :: st)) : wt_B X k n next U σ pc lv (.inl z :: st) := by
  intro ad H locs ls ce sl h1 h2 hw hS hl
  subst hN
  have hw' := hw
  obtain ⟨w1, w2, w3, w4⟩ := hw
  have hKK := h.2.2.2.2.2.2.1
  have r3 := h.2.2.2.2.2.2.2.2.2.2.1
  have r4 := h.2.2.2.2.2.2.2.2.2.2.2.1
  refine W.anew h.1 h.2.1 h.2.2.2.2.1 (h.2.2.2.2.2.1 _ hl0) hov rfl hd rfl hn0 (by omega) (by omega) (by omega) fun cA kA comp q1 q2 q3 q4 => ?_
  obtain ⟨kB, cB, -, -, -, e1⟩ := (hKK.2 2 _ rfl).2
  have e3 : wt_wS (wt_xw X) = cA := Option.some.inj (e1.symm.trans q1)
  subst e3
  have hlt : next < wt_LAY.length := (List.getElem?_eq_some_iff.mp hL).1
  have o1 : ∀ q, q < H.size → (H.push ({ cls := wt_wS (wt_xw X), slots := Array.replicate z.toNatClampNeg .null, vm := .none } : Cell))[q]? = H[q]? := fun q hq => by
    rw [Array.getElem?_push, if_neg (Nat.ne_of_lt hq)]
  have hpe : wt_pe (wt_wI (wt_xw X)) (wt_wJ (wt_xw X)) (wt_wS (wt_xw X)) (wt_grow ad next H.size) σ (next + 1) (L ++ U) next = .inl (wt_wS (wt_xw X), z.toNatClampNeg, .inr (.inr (.inr (.inr (fun _ => none))))) := by
    unfold wt_pe
    rw [hL]
    refine congrArg _ (congrArg _ (congrArg _ (congrArg _ (congrArg _ (congrArg _ (congrArg _ (funext fun j => ?_)))))))
    refine if_neg fun a => ?_
    have := List.all_eq_true.mp hem j (List.mem_range.mpr a.1)
    rw [a.2] at this
    cases this
  have hk9 : ∀ (k : Nat) (x : Nat × va_E), (wt_bw (wt_xw X) ad σ U next)[k]? = some x → (H.push ({ cls := wt_wS (wt_xw X), slots := Array.replicate z.toNatClampNeg .null, vm := .none } : Cell))[x.1]? = H[x.1]? := fun k x hx => o1 x.1 ((w2 k x hx).lt)
  have g2 : va_P (wt_wD (wt_xw X)) wt_cl (wt_bw (wt_xw X) ad σ U next ++ [(H.size, .inl (wt_wS (wt_xw X), z.toNatClampNeg, .inr (.inr (.inr (.inr (fun _ => none))))))]) (H.push ({ cls := wt_wS (wt_xw X), slots := Array.replicate z.toNatClampNeg .null, vm := .none } : Cell)) := (w2.kept hk9).app (fun k x hx => by
    have hz : k < 1 := (List.getElem?_eq_some_iff.mp hx).1
    rw [show k = 0 by omega] at hx
    cases hx
    show (H.push _)[H.size]? = some (vp_cell _ _)
    rw [vp_cell_q, ← show arrV (wt_wS (wt_xw X)) z.toNatClampNeg (fun _ => .null) = arrV (wt_wS (wt_xw X)) z.toNatClampNeg (fun j => va_rf none) from rfl, ← arrV_new]
    simp)
  have := kk (wt_grow ad next H.size) _ locs ls (ce + 1) (sl + z.toNatClampNeg) (by omega) (by omega) (wt_Bw_grow hlt hbo hw' hpe g2 (w3.push w2 rfl (wt_Asz _ hS.1))) ⟨Nat.le_trans hS.1 (by simp), fun x h1 h2 => (o1 x (Nat.lt_of_lt_of_le h1 hS.1)).trans (hS.2.1 x h1 h2), hS.2.2⟩ (by rw [wt_lv_grow hlv]; exact hl)
  have e4 : (Sum.inr next :: st : List wt_Q).map (wt_qv (wt_grow ad next H.size)) = .ref H.size :: st.map (wt_qv ad) := by
    rw [List.map_cons, wt_st_grow hst]
    refine congrArg (· :: _) ?_
    show Value.ref _ = _
    unfold wt_grow
    rw [if_pos rfl]
  rw [e4] at this
  exact this
theorem wt_bn_aast (h : wt_Ok X cc nL own d Km) (U' : wt_U) {r j m m2 a0 f0 : Nat} {rs : List Nat} {x : Int32} (hL : wt_LAY[r]? = some (2, m, [a0, f0])) (hr : r < next) (hin : vp_in x m) (hj : a0 + f0 * x.toNatClampNeg = j) (hLj : wt_LAY[j]? = some (3 + 3, m2, rs)) (hjn : j < next) (hU : U.filter (fun p => ! (p == (r, x.toNatClampNeg))) = U') (hd : decode cc pc = .ok (.aastore, 1)) (kk : wt_B X k n next U' σ (pc + 1) lv st) : wt_B X k n next U σ pc lv (.inr j :: .inl x :: .inr r :: st) := by
  intro ad H locs ls ce sl h1 h2 hw hS hl
  obtain ⟨w1, w2, w3, w4⟩ := hw
  have hg := wt_bw_get (w := wt_xw X) (ad := ad) (σ := σ) (U := U) hr
  have e : ∀ V : wt_U, wt_pe (wt_wI (wt_xw X)) (wt_wJ (wt_xw X)) (wt_wS (wt_xw X)) ad σ next V r = .inl (wt_wS (wt_xw X), m, .inr (.inr (.inr (.inr (fun q => if q < m ∧ wt_em next V r q (a0 + f0 * q) = false then some (ad (a0 + f0 * q)) else none))))) := fun V => by
    unfold wt_pe
    rw [hL]
    rfl
  rw [e] at hg
  have hv := wt_bw_get (w := wt_xw X) (ad := ad) (σ := σ) (U := U) hjn
  rw [wt_pe_ob hLj] at hv
  have hlt : x.toNatClampNeg < m := Nat.not_le.mp fun q => hin (Or.inr q)
  refine va_astq h.1 h.2.1 h.2.2.2.2.2.2.1 w2 w3 hS r 2 j 3 hg rfl hv rfl hin hd fun H1 locs1 g1 g2 g3 => ?_
  have e2 := wt_bw_set (w := wt_xw X) (ad := ad) (σ := σ) (σ' := σ) (U := U) (U' := U') (e := .inl (wt_wS (wt_xw X), m, .inr (.inr (.inr (.inr (va_up (fun q => if q < m ∧ wt_em next U r q (a0 + f0 * q) = false then some (ad (a0 + f0 * q)) else none) x.toNatClampNeg (some (ad j)))))))) hr (by
    rw [e]
    refine congrArg _ (congrArg _ (congrArg _ (congrArg _ (congrArg _ (congrArg _ (congrArg _ (funext fun q => ?_)))))))
    by_cases hq : q = x.toNatClampNeg
    · subst hq
      rw [if_pos ⟨hlt, wt_em_done hU (by rw [hj]; exact hjn)⟩, hj]
      simp [va_up]
    · rw [wt_em_fill hU (fun z => hq z.2)]
      simp [va_up, hq]) (fun q _ hq => wt_pe_other hU hq)
  rw [e2] at g1 g2
  exact kk ad H1 locs1 ls ce sl h1 h2 ⟨w1, g1, g2, w4⟩ g3 hl
def wt_whole (next : Nat) (U : wt_U) (P : Nat → Prop) : Prop := ∀ i, P i → i < next ∧ ∀ (cI cII cS : ClassId) (ad : Nat → Nat) (σ : wt_St), wt_pe cI cII cS ad σ next U i = wt_ce cI cII cS ad σ i
/-- an ordinary method of whole cells -/
theorem wt_bn_callV (h : wt_Ok X cc nL own d Km) (P : Nat → Prop) (hw0 : wt_whole next U P) {idx : Nat} {y : MethodName} {b : ByteArray} {m kk0 dd ci nn N i : Nat} {rs : List Nat} {T : u_T} {As : List wt_Q} {st0 : List wt_Q} {σ' : wt_St} (mv : wt_MV own idx y) (hy : wt_Ya y b m none kk0)
    (hc : ∀ ad : Nat → Nat, wt_Ctr (wt_xl X) (wt_at (wt_xw X) ad P) y b m none dd (.ref (ad i) :: As.map (wt_qv ad)) σ none σ') (hd1 : dd + 1 ≤ d) (hi : P i) (hL : wt_LAY[i]? = some (ci + 3, nn, rs)) (hcl : wt_cl[ci]? = some (y.cls, T, N)) (hlen : As.length = kk0) (hst : As.reverse ++ .inr i :: st = st0) (hro : st.length ≤ 8) (hk : k ≤ Km) (hfr : ∀ j, ¬ P j → (∀ q, wt_gf σ' j q = wt_gf σ j q) ∧ ∀ q, wt_ga σ' j q = wt_ga σ j q) (hz : wt_zero σ' next) (hn : n ≤ 16 * Km) (hd : decode cc pc = .ok (.invokevirtual idx, 3))
    (kk : wt_B X k n next U σ' (pc + 3) lv st) : wt_B X k n next U σ pc lv st0 := by
  intro ad H locs ls ce sl h1 h2 hw hS hl
  obtain ⟨hlink, hin, hsel, hini⟩ := mv
  obtain ⟨hx, hb, hml, hn0, hown, hts, hKK, hN, r1, r2, r3, r4, hlk, hFX⟩ := id h
  obtain ⟨w1, w2, w3, w4⟩ := hw
  have hA : ∀ i, i < next → wt_A (wt_xw X) (wt_xs X).heap.size (ad i) := fun i hi => w3.2 i _ (wt_bw_get hi)
  have hAA : ∀ q : Nat, wt_A (wt_at (wt_xw X) ad P) H.size q → wt_A (wt_xw X) (wt_xs X).heap.size q := fun q hq => by
    rcases hq with ⟨i, hi, rfl⟩ | hq
    · exact hA i (hw0 i hi).1
    · exact Or.inr (Nat.le_trans hS.1 hq)
  have hWd : wt_Wd (wt_at (wt_xw X) ad P) σ H := ⟨fun j hj => by
    have := w2 j _ (wt_bw_get (hw0 j hj).1)
    rw [(hw0 j hj).2] at this
    exact this, fun a c ha hc e => w3.1 a c _ _ (wt_bw_get (hw0 a ha).1) (wt_bw_get (hw0 c hc).1) e⟩
  have hP := hWd.one (i := i) hi
  unfold wt_cell at hP
  rw [wt_ce_ob hL] at hP
  have hrecv := va_recv hKK hP hcl (q0 := 0) rfl
  have hpv : PreV (wt_xs X) H y.cls (ad i) (wt_PcS (wt_at (wt_xw X) ad P) wt_S0 (.ref (ad i) :: As.map (wt_qv ad)) σ H.size) (As.map (wt_qv ad)) := ⟨wt_blind _ wt_True_fx _ _ _, hrecv, fun V hV hW => by
    subst hV
    exact ⟨rfl, rfl, hWd, va_K.moved hW.alike hKK, hN.warm hW, wt_FX_fx.2.2.1 _ _ _ _ hW (wt_FX_fx.2.1 _ _ _ _ (wt_FX_fx.1 _ _ _ _ hFX hS.2.1) hAA), trivial⟩⟩
  have hfix : CallFix (wt_xp X) (wt_xm X) (wt_xc X) cc nL (wt_xs X) (wt_xa X) wt_GT own := ⟨hx, hb, hml, hown, hts⟩
  have hsz : ls.size = nL := by rw [hl.1, hn0]
  have hroo : (wt_rm dd).frames + 1 ≤ (wt_xR X).frames ∧ 8 + (m + 11) + (wt_rm dd).locals ≤ (wt_xR X).locals := by
    have := hy.2.2
    exact ⟨by show dd + 1 ≤ _; omega, by show 8 + (m + 11) + 64 * dd ≤ _; omega⟩
  have hst2 : st0.map (wt_qv ad) = (As.map (wt_qv ad)).reverse ++ .ref (ad i) :: st.map (wt_qv ad) := by
    rw [← hst, List.map_append, List.map_reverse]
    rfl
  have run : va_Run (wt_xp X) (wt_xl X) (wt_xe X) (wt_xR X) (wt_xs X) (wt_xm X) (wt_xa X) (wt_xb X) (wt_xM X) (wt_xc X) H locs ce sl 0 0 (F0 (wt_xm X) pc ls (st0.map (wt_qv ad))) (st.map (wt_qv ad)) (wt_Qc (wt_at (wt_xw X) ad P) none none σ' H.size (Value.ref (ad i) :: As.map (wt_qv ad)).toArray) (wt_A (wt_at (wt_xw X) ad P) H.size) := by
    rcases hlink with hlink | ⟨host, hlink⟩
    · exact va_runV hfix (hc ad H.size) ⟨callB_of kk0 hts (wt_goodG h hy.2.1) rfl rfl rfl (hts _ hini) (hts _ hlink) hy.1 hroo, hts _ hin, hts _ hsel⟩ hpv rfl (by rw [List.length_map]; exact hlen) hsz hst2 (by show 2 * 0 + _ ≤ 8; rw [wt_qcsum]; omega) hd ⟨by omega, by omega⟩
    · exact va_runVN hfix (hc ad H.size) ⟨va_cnB (host := host) kk0 hts (wt_goodG h hy.2.1) rfl rfl rfl (hN _ hlink) (hts _ hini) hy.1 hroo, hts _ hin, hts _ hsel⟩ hpv rfl (by rw [List.length_map]; exact hlen) hsz hst2 (by show 2 * 0 + _ ≤ 8; rw [wt_qcsum]; omega) hd ⟨by omega, by omega⟩
  intro T hT Y
  obtain ⟨v, s0, t, T', L, e0, Y', hL2, e1, e2, ⟨⟨hv, -, hwd⟩, hz2, hk2⟩, stp⟩ := run T hT Y
  have hv2 : v = none := Outcome.returned.inj hv
  subst hv2
  rw [e0] at hz2 hk2
  have hP2 : va_P (wt_wD (wt_xw X)) wt_cl (wt_bw (wt_xw X) ad σ' U next) t.heap := fun q x hq => by
    have hqn : q < next := by
      have := (List.getElem?_eq_some_iff.mp hq).1
      simpa [wt_bw] using this
    rw [wt_bw_get hqn] at hq
    cases hq
    by_cases hp : P q
    · rw [(hw0 q hp).2]
      exact hwd.1 q hp
    · have e3 : wt_pe (wt_wI (wt_xw X)) (wt_wJ (wt_xw X)) (wt_wS (wt_xw X)) ad σ' next U q = wt_pe (wt_wI (wt_xw X)) (wt_wJ (wt_xw X)) (wt_wS (wt_xw X)) ad σ next U q := by
        have g1 := (hfr q hp).1
        have g2 : wt_ga σ' q = wt_ga σ q := funext (hfr q hp).2
        unfold wt_pe wt_fv
        simp only [g1, g2]
      rw [e3]
      have hat := w2 q _ (wt_bw_get hqn)
      refine hat.kept (hk2 _ hat.lt ?_)
      rintro (⟨j, hj, hje⟩ | hge)
      · have := w3.1 q j _ _ (wt_bw_get hqn) (wt_bw_get (hw0 j hj).1) hje
        subst this
        exact hp hj
      · exact absurd hat.lt (Nat.not_lt.mpr hge)
  obtain ⟨t2, a1, b1⟩ := kk ad T'.heap (locs ++ L) ls (ce + 0) (sl + 0) h1 h2 ⟨w1, by rw [e1]; exact hP2, ⟨fun a c x y ha hc e => by
      have ha2 : a < next := by
        have := (List.getElem?_eq_some_iff.mp ha).1
        simpa [wt_bw] using this
      have hc2 : c < next := by
        have := (List.getElem?_eq_some_iff.mp hc).1
        simpa [wt_bw] using this
      rw [wt_bw_get ha2] at ha
      rw [wt_bw_get hc2] at hc
      cases ha
      cases hc
      exact w3.1 a c _ _ (wt_bw_get ha2) (wt_bw_get hc2) e, fun a x ha => by
      have ha2 : a < next := by
        have := (List.getElem?_eq_some_iff.mp ha).1
        simpa [wt_bw] using this
      rw [wt_bw_get ha2] at ha
      cases ha
      exact hA a ha2⟩, hz⟩
    ⟨Nat.le_trans hS.1 (by rw [e1]; exact hz2), fun q g1 g2 => by
      rw [e1, hk2 q (Nat.lt_of_lt_of_le g1 hS.1) (fun z => g2 (hAA q z))]
      exact hS.2.1 q g1 g2, fun q hq => by
      rcases List.mem_append.mp hq with g | g
      · exact hS.2.2 q g
      · exact hAA _ (hL2 q g)⟩ hl T' rfl Y'
  exact ⟨t2, stp t2 a1, b1⟩
end WB3
end WTQ0
-- 51.mna.lean.txt
section WTQ1
/-! what the makers need of array classes: it stays -/
theorem wt_AOA_moved {u U : State} (hvm : u.vm.Alike U.vm) (h : va_AOA .int u) : va_AOA .int U := by
  have e : (Cond.arrayOver (.array .int)).before #[] (u.setVm U.vm) = (Cond.arrayOver (.array .int)).before #[] u := Cond.arrayOver_setVmC hvm _
  have h1 : (Cond.arrayOver (.array .int)).before #[] (u.setVm U.vm) = true := e.trans h
  exact h1
def wt_SA : wt_SP := fun _ U _ => va_AO "WornType$State" U ∧ va_AOA .int U
theorem wt_SA_fx : wt_Fx wt_SA := ⟨fun _ _ _ _ h _ => h, fun _ _ _ _ h _ => h, fun _ _ _ _ hW h => ⟨va_AO.moved hW.alike h.1, wt_AOA_moved hW.alike h.2⟩, fun _ _ _ _ hv h => ⟨va_AO.moved (wt_alR hv) h.1, wt_AOA_moved (wt_alR hv) h.2⟩⟩
/-! a grid: its row of rows and its rows are born at once -/
theorem wt_pe_many {cI cII cS : ClassId} {ad ad' : Nat → Nat} {σ : wt_St} {next j N : Nat} {L U : wt_U} {e : Nat × Nat × List Nat} (hj : j < next) (hLe : wt_LAY[j]? = some e) (h1 : wt_cOk next L j e = true) (h2 : L.all (wt_pOk next) = true) (ha : ∀ t, t < next → ad' t = ad t) (h3 : ∀ i, i < N → wt_cOk (next + 1 + i) [] j e = true) : ∀ i, i ≤ N → wt_pe cI cII cS ad' σ (next + 1 + i) (L ++ U) j = wt_pe cI cII cS ad σ next U j := by
  intro i
  induction i with
  | zero => exact fun _ => wt_pe_born hj hLe h1 h2 ha
  | succ i ih => exact fun hi => (wt_pe_born (next := next + 1 + i) (L := []) (U := L ++ U) (ad := ad') (ad' := ad') (by omega) hLe (h3 i (by omega)) rfl (fun t _ => rfl)).trans (ih (by omega))
def wt_bOkN (next N : Nat) (L : wt_U) : Bool := wt_bOk next L && (List.range N).all (fun i => (wt_LAY.take next).zipIdx.all (fun p => wt_cOk (next + 1 + i) [] p.2 p.1))
theorem wt_zipAll {next j : Nat} {f : (Nat × Nat × List Nat) × Nat → Bool} (h : ((wt_LAY.take next).zipIdx.all f) = true) (hj : j < next) (hl : j < wt_LAY.length) : f (wt_LAY[j], j) = true := by
  refine List.all_eq_true.mp h (wt_LAY[j], j) ?_
  rw [List.mem_iff_getElem?]
  refine ⟨j, ?_⟩
  rw [List.getElem?_zipIdx, List.getElem?_take_of_lt hj, List.getElem?_eq_getElem hl]
  simp
theorem wt_bOkN_use {cI cII cS : ClassId} {ad ad' : Nat → Nat} {σ : wt_St} {next j N : Nat} {L U : wt_U} (hn : next ≤ wt_LAY.length) (h : wt_bOkN next N L = true) (hj : j < next) (ha : ∀ t, t < next → ad' t = ad t) : wt_pe cI cII cS ad' σ (next + 1 + N) (L ++ U) j = wt_pe cI cII cS ad σ next U j := by
  unfold wt_bOkN wt_bOk at h
  rw [Bool.and_eq_true, Bool.and_eq_true] at h
  have hl : j < wt_LAY.length := Nat.lt_of_lt_of_le hj hn
  exact wt_pe_many hj (List.getElem?_eq_getElem hl) (wt_zipAll h.1.1 hj hl) h.1.2 ha (fun i hi => wt_zipAll (List.all_eq_true.mp h.2 i (List.mem_range.mpr hi)) hj hl) N (Nat.le_refl _)
def wt_growN (ad : Nat → Nat) (next q : Nat) (r : Nat → Nat) : Nat → Nat := fun j => if j < next then ad j else if j = next then q else r (j - next - 1)
theorem wt_qv_growN {ad : Nat → Nat} {next q : Nat} {r : Nat → Nat} {v : wt_Q} (h : wt_qlt next v = true) : wt_qv (wt_growN ad next q r) v = wt_qv ad v := by
  cases v with
  | inl x => rfl
  | inr j =>
    have : j < next := by simpa [wt_qlt] using h
    show Value.ref _ = Value.ref _
    unfold wt_growN
    rw [if_pos this]
theorem wt_bw_many {w : wt_E} {ad : Nat → Nat} {σ : wt_St} {U U' : wt_U} {next q N : Nat} {r : Nat → Nat} {e : va_E} {er : va_E} (he : wt_pe (wt_wI w) (wt_wJ w) (wt_wS w) (wt_growN ad next q r) σ (next + 1 + N) U' next = e) (hr : ∀ i, i < N → wt_pe (wt_wI w) (wt_wJ w) (wt_wS w) (wt_growN ad next q r) σ (next + 1 + N) U' (next + 1 + i) = er)
    (ho : ∀ j, j < next → wt_pe (wt_wI w) (wt_wJ w) (wt_wS w) (wt_growN ad next q r) σ (next + 1 + N) U' j = wt_pe (wt_wI w) (wt_wJ w) (wt_wS w) ad σ next U j) : (wt_bw w ad σ U next ++ [(q, e)]) ++ ((List.range N).map r).map (fun a => (a, er)) = wt_bw w (wt_growN ad next q r) σ U' (next + 1 + N) := by
  have g1 : ∀ j, j < next → wt_growN ad next q r j = ad j := fun j hj => by
    unfold wt_growN
    rw [if_pos hj]
  have g2 : wt_growN ad next q r next = q := by
    unfold wt_growN
    rw [if_neg (Nat.lt_irrefl _), if_pos rfl]
  have g3 : ∀ i, wt_growN ad next q r (next + 1 + i) = r i := fun i => by
    unfold wt_growN
    rw [if_neg (by omega), if_neg (by omega)]
    congr 1
    omega
  unfold wt_bw
  rw [List.range_add (n := next + 1) (m := N), List.map_append, List.range_succ, List.map_append, List.map_singleton, g2, he]
  congr 1
  · congr 1
    apply List.map_congr_left
    intro j hj
    have := List.mem_range.mp hj
    rw [g1 j this, ho j this]
  · rw [List.map_map, List.map_map]
    apply List.map_congr_left
    intro i hi
    have := List.mem_range.mp hi
    show (r i, er) = (_, _)
    rw [g3 i, hr i this]
theorem wt_pl_nil (f : Nat → va_E) : va_pl [] f = [] := rfl
theorem wt_bn_mna {X : wt_X} {cc : ByteArray} {nL : Nat} {own : String} {d Km k n next : Nat} {U : wt_U} {σ : wt_St} {pc : Nat} {lv : List (Option wt_Q)} {st : List wt_Q} (h : wt_Ok X cc nL own d Km) (hov : va_AOA .int (wt_xs X)) (L : wt_U) {idx : Nat} {z1 z2 : Int32} {N M : Nat} (hl0 : Cond.classLink own idx "[[I" ∈ wt_GT) (hw0 : Cond.arrayClass .int ∈ wt_GT) (hL : wt_LAY[next]? = some (1, N, [next + 1])) (hrows : ∀ i, i < N → wt_LAY[next + 1 + i]? = some (0, M, [])) (hn1 : ¬ z1 < 0) (hn2 : ¬ z2 < 0) (hN : z1.toNatClampNeg = N) (hM : z2.toNatClampNeg = M) (hbN : N ≤ 1000) (hbM : M ≤ 2000) (hbo : wt_bOkN next N L = true) (hlen : next + 1 + N ≤ wt_LAY.length) (hst : st.all (wt_qlt next) = true) (hlv : wt_lvlt next lv = true) (hk : k + 1 + N ≤ Km) (hn : n + N + N * M ≤ 16 * Km) (hd : decode cc pc = .ok (.multianewarray idx 2, 4))
    (kk : wt_B X (k + 1 + N) (n + N + N * M) (next + 1 + N) (L ++ U) σ (pc + 4) lv (.inr next :: st)) : wt_B X k n next U σ pc lv (.inl z2 :: .inl z1 :: st) := by
  intro ad H locs ls ce sl h1 h2 hw hS hl
  obtain ⟨w1, w2, w3, w4⟩ := hw
  have hKK := h.2.2.2.2.2.2.1
  have hts := h.2.2.2.2.2.1
  have r3 := h.2.2.2.2.2.2.2.2.2.2.1
  have r4 := h.2.2.2.2.2.2.2.2.2.2.2.1
  have w2' : va_P (wt_wD (wt_xw X)) wt_cl (wt_bw (wt_xw X) ad σ U next ++ va_pl [] (fun _ => .inl (0, 0, .inl (fun _ => 0)))) H := by rw [wt_pl_nil, List.append_nil]; exact w2
  have w3' : va_D (wt_A (wt_xw X) (wt_xs X).heap.size) (wt_bw (wt_xw X) ad σ U next ++ va_pl [] (fun _ => .inl (0, 0, .inl (fun _ => 0)))) := by rw [wt_pl_nil, List.append_nil]; exact w3
  refine va_mna (X := wt_bw (wt_xw X) ad σ U next) (L := []) (ty := .int) (cy := wt_wI (wt_xw X)) (N' := N) (K' := M) (z := (M, .inl (fun _ => 0))) h.1 h.2.1 h.2.2.2.2.1 (hts _ hl0) hov (hts _ hw0) (hKK.2 0 _ rfl).2 hKK w2' w3' hS wt_Asz hn1 hn2 hN hM (by omega) (by show M * 4 ≤ _; omega) (by omega) rfl rfl (by omega) (by omega) (fun c => (arrV_new c M (.int 0))) hd fun q r cA H1 e1 e2 g1 g2 g3 g4 => ?_
  have f1 := (hKK.2 1 _ rfl).2
  have f2 := (g1.2 3 (cA, .array .int) rfl).2
  have f3 : wt_wJ (wt_xw X) = cA := Option.some.inj (f1.symm.trans f2)
  subst f3
  have hgr : ∀ t, t < next → wt_growN ad next q r t = ad t := fun t ht => by
    unfold wt_growN
    rw [if_pos ht]
  have hE := wt_bw_many (w := wt_xw X) (ad := ad) (σ := σ) (U := U) (U' := L ++ U) (next := next) (q := q) (N := N) (r := r) (e := .inl (wt_wJ (wt_xw X), N, .inr (.inr (.inr (.inr (fun i => if i < N then some (r i) else none)))))) (er := .inl (wt_wI (wt_xw X), (M, .inl (fun _ => 0)))) (by
      unfold wt_pe
      rw [hL]
      refine congrArg _ (congrArg _ (congrArg _ (congrArg _ (congrArg _ (congrArg _ (congrArg _ (funext fun j => ?_)))))))
      show (if j < N ∧ next + 1 + j < next + 1 + N then some (wt_growN ad next q r (next + 1 + j)) else none) = _
      by_cases hj : j < N
      · rw [if_pos ⟨hj, by omega⟩, if_pos hj]
        refine congrArg some ?_
        unfold wt_growN
        rw [if_neg (by omega), if_neg (by omega)]
        congr 1
        omega
      · rw [if_neg (fun z => hj z.1), if_neg hj]) (fun i hi => by
      unfold wt_pe
      rw [hrows i hi]
      dsimp only
      have : wt_ga σ (next + 1 + i) = fun _ => 0 := funext (w4 (next + 1 + i) (by omega)).2
      rw [this]) (fun j hj => wt_bOkN_use (by omega) hbo hj hgr)
  have hpl : va_pl ([] ++ (List.range N).map r) (vr_up (fun _ => .inl (0, 0, .inl (fun _ => 0))) ((List.range N).map r) (.inl (wt_wI (wt_xw X), (M, .inl (fun _ => 0))))) = ((List.range N).map r).map (fun a => ((a, .inl (wt_wI (wt_xw X), (M, .inl (fun _ => 0)))) : Nat × va_E)) := by
    rw [List.nil_append]
    unfold va_pl
    apply List.map_congr_left
    intro a ha
    rw [vr_up_in ha]
  rw [hpl] at g2 g3
  rw [hE] at g2 g3
  have := kk (wt_growN ad next q r) H1 locs ls (ce + 1 + N) (sl + N + N * M) (by omega) (by omega) ⟨fun i hi => ⟨(hgr i (w1 i hi).2).trans (w1 i hi).1, by have := (w1 i hi).2; omega⟩, g2, g3, fun i hi => w4 i (by omega)⟩ g4 (by rw [wt_same_lv hgr hlv]; exact hl)
  have e4 : (Sum.inr next :: st : List wt_Q).map (wt_qv (wt_growN ad next q r)) = .ref q :: st.map (wt_qv ad) := by
    rw [List.map_cons, wt_same_st hgr hst]
    refine congrArg (· :: _) ?_
    show Value.ref _ = _
    unfold wt_growN
    rw [if_neg (Nat.lt_irrefl _), if_pos rfl]
  rw [e4] at this
  exact this
/-- a row's own budget may be rounded up -/
theorem wt_bn_up {X : wt_X} {k n k' n' next : Nat} {U : wt_U} {σ : wt_St} {pc : Nat} {lv : List (Option wt_Q)} {st : List wt_Q} (hk : k ≤ k') (hn : n ≤ n') (h : wt_B X k' n' next U σ pc lv st) : wt_B X k n next U σ pc lv st :=
  fun ad H locs ls ce sl h1 h2 hw hS hl => h ad H locs ls ce sl (by omega) (by omega) hw hS hl
end WTQ1
