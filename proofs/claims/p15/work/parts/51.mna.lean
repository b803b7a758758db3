/-! what the makers need of array classes: it stays -/
theorem wt_AOA_moved {u U : State} (hvm : u.vm.Alike U.vm) (h : va_AOA .int u) : va_AOA .int U := by
  have e : (Cond.arrayOver (.array .int)).before #[] (u.setVm U.vm) = (Cond.arrayOver (.array .int)).before #[] u := Cond.arrayOver_setVmC hvm _
  have h1 : (Cond.arrayOver (.array .int)).before #[] (u.setVm U.vm) = true := e.trans h
  exact h1
def wt_SA : wt_SP := fun _ U _ => va_AO "WornType$State" U ∧ va_AOA .int U
theorem wt_SA_fx : wt_Fx wt_SA := ⟨fun _ _ _ _ h _ => h, fun _ _ _ _ h _ => h, fun _ _ _ _ hW h => ⟨va_AO.moved hW.alike h.1, wt_AOA_moved hW.alike h.2⟩, fun _ _ _ _ hv h => ⟨va_AO.moved (wt_alR hv) h.1, wt_AOA_moved (wt_alR hv) h.2⟩⟩
/-! a grid: its row of rows and its rows are born at once -/
theorem wt_pe_many {cI cII cS : ClassId} {ad ad' : Nat → Nat} {σ : wt_St} {next j N : Nat} {L U : wt_U} {e : Nat × Nat × List Nat} (hj : j < next) (hLe : wt_LAY[j]? = some e) (h1 : wt_cOk next L j e = true) (h2 : L.all (wt_pOk next) = true) (ha : ∀ t, t < next → ad' t = ad t) (h3 : ∀ i, i < N → wt_cOk (next + 1 + i) [] j e = true) : ∀ i, i ≤ N → wt_pe cI cII cS ad' σ (next + 1 + i) (L ++ U) j = wt_pe cI cII cS ad σ next U j := by
  intro i
  induction i with
  | zero => exact fun _ => wt_pe_born hj hLe h1 h2 ha
  | succ i ih => exact fun hi => (wt_pe_born (next := next + 1 + i) (L := []) (U := L ++ U) (ad := ad') (ad' := ad') (by omega) hLe (h3 i (by omega)) rfl (fun t _ => rfl)).trans (ih (by omega))
def wt_bOkN (next N : Nat) (L : wt_U) : Bool := wt_bOk next L && (List.range N).all (fun i => (wt_LAY.take next).zipIdx.all (fun p => wt_cOk (next + 1 + i) [] p.2 p.1))
theorem wt_zipAll {next j : Nat} {f : (Nat × Nat × List Nat) × Nat → Bool} (h : ((wt_LAY.take next).zipIdx.all f) = true) (hj : j < next) (hl : j < wt_LAY.length) : f (wt_LAY[j], j) = true := by
  refine List.all_eq_true.mp h (wt_LAY[j], j) ?_
  rw [List.mem_iff_getElem?]
  refine ⟨j, ?_⟩
  rw [List.getElem?_zipIdx, List.getElem?_take_of_lt hj, List.getElem?_eq_getElem hl]
  simp
theorem wt_bOkN_use {cI cII cS : ClassId} {ad ad' : Nat → Nat} {σ : wt_St} {next j N : Nat} {L U : wt_U} (hn : next ≤ wt_LAY.length) (h : wt_bOkN next N L = true) (hj : j < next) (ha : ∀ t, t < next → ad' t = ad t) : wt_pe cI cII cS ad' σ (next + 1 + N) (L ++ U) j = wt_pe cI cII cS ad σ next U j := by
  unfold wt_bOkN wt_bOk at h
  rw [Bool.and_eq_true, Bool.and_eq_true] at h
  have hl : j < wt_LAY.length := Nat.lt_of_lt_of_le hj hn
  exact wt_pe_many hj (List.getElem?_eq_getElem hl) (wt_zipAll h.1.1 hj hl) h.1.2 ha (fun i hi => wt_zipAll (List.all_eq_true.mp h.2 i (List.mem_range.mpr hi)) hj hl) N (Nat.le_refl _)
def wt_growN (ad : Nat → Nat) (next q : Nat) (r : Nat → Nat) : Nat → Nat := fun j => if j < next then ad j else if j = next then q else r (j - next - 1)
theorem wt_qv_growN {ad : Nat → Nat} {next q : Nat} {r : Nat → Nat} {v : wt_Q} (h : wt_qlt next v = true) : wt_qv (wt_growN ad next q r) v = wt_qv ad v := by
  cases v with
  | inl x => rfl
  | inr j =>
    have : j < next := by simpa [wt_qlt] using h
    show Value.ref _ = Value.ref _
    unfold wt_growN
    rw [if_pos this]
theorem wt_bw_many {w : wt_E} {ad : Nat → Nat} {σ : wt_St} {U U' : wt_U} {next q N : Nat} {r : Nat → Nat} {e : va_E} {er : va_E} (he : wt_pe (wt_wI w) (wt_wJ w) (wt_wS w) (wt_growN ad next q r) σ (next + 1 + N) U' next = e) (hr : ∀ i, i < N → wt_pe (wt_wI w) (wt_wJ w) (wt_wS w) (wt_growN ad next q r) σ (next + 1 + N) U' (next + 1 + i) = er)
    (ho : ∀ j, j < next → wt_pe (wt_wI w) (wt_wJ w) (wt_wS w) (wt_growN ad next q r) σ (next + 1 + N) U' j = wt_pe (wt_wI w) (wt_wJ w) (wt_wS w) ad σ next U j) : (wt_bw w ad σ U next ++ [(q, e)]) ++ ((List.range N).map r).map (fun a => (a, er)) = wt_bw w (wt_growN ad next q r) σ U' (next + 1 + N) := by
  have g1 : ∀ j, j < next → wt_growN ad next q r j = ad j := fun j hj => by
    unfold wt_growN
    rw [if_pos hj]
  have g2 : wt_growN ad next q r next = q := by
    unfold wt_growN
    rw [if_neg (Nat.lt_irrefl _), if_pos rfl]
  have g3 : ∀ i, wt_growN ad next q r (next + 1 + i) = r i := fun i => by
    unfold wt_growN
    rw [if_neg (by omega), if_neg (by omega)]
    congr 1
    omega
  unfold wt_bw
  rw [List.range_add (n := next + 1) (m := N), List.map_append, List.range_succ, List.map_append, List.map_singleton, g2, he]
  congr 1
  · congr 1
    apply List.map_congr_left
    intro j hj
    have := List.mem_range.mp hj
    rw [g1 j this, ho j this]
  · rw [List.map_map, List.map_map]
    apply List.map_congr_left
    intro i hi
    have := List.mem_range.mp hi
    show (r i, er) = (_, _)
    rw [g3 i, hr i this]
theorem wt_pl_nil (f : Nat → va_E) : va_pl [] f = [] := rfl
theorem wt_bn_mna {X : wt_X} {cc : ByteArray} {nL : Nat} {own : String} {d Km k n next : Nat} {U : wt_U} {σ : wt_St} {pc : Nat} {lv : List (Option wt_Q)} {st : List wt_Q} (h : wt_Ok X cc nL own d Km) (hov : va_AOA .int (wt_xs X)) (L : wt_U) {idx : Nat} {z1 z2 : Int32} {N M : Nat} (hl0 : Cond.classLink own idx "[[I" ∈ wt_GT) (hw0 : Cond.arrayClass .int ∈ wt_GT) (hL : wt_LAY[next]? = some (1, N, [next + 1])) (hrows : ∀ i, i < N → wt_LAY[next + 1 + i]? = some (0, M, [])) (hn1 : ¬ z1 < 0) (hn2 : ¬ z2 < 0) (hN : z1.toNatClampNeg = N) (hM : z2.toNatClampNeg = M) (hbN : N ≤ 1000) (hbM : M ≤ 2000) (hbo : wt_bOkN next N L = true) (hlen : next + 1 + N ≤ wt_LAY.length) (hst : st.all (wt_qlt next) = true) (hlv : wt_lvlt next lv = true) (hk : k + 1 + N ≤ Km) (hn : n + N + N * M ≤ 16 * Km) (hd : decode cc pc = .ok (.multianewarray idx 2, 4))
    (kk : wt_B X (k + 1 + N) (n + N + N * M) (next + 1 + N) (L ++ U) σ (pc + 4) lv (.inr next :: st)) : wt_B X k n next U σ pc lv (.inl z2 :: .inl z1 :: st) := by
  intro ad H locs ls ce sl h1 h2 hw hS hl
  obtain ⟨w1, w2, w3, w4⟩ := hw
  have hKK := h.2.2.2.2.2.2.1
  have hts := h.2.2.2.2.2.1
  have r3 := h.2.2.2.2.2.2.2.2.2.2.1
  have r4 := h.2.2.2.2.2.2.2.2.2.2.2.1
  have w2' : va_P (wt_wD (wt_xw X)) wt_cl (wt_bw (wt_xw X) ad σ U next ++ va_pl [] (fun _ => .inl (0, 0, .inl (fun _ => 0)))) H := by rw [wt_pl_nil, List.append_nil]; exact w2
  have w3' : va_D (wt_A (wt_xw X) (wt_xs X).heap.size) (wt_bw (wt_xw X) ad σ U next ++ va_pl [] (fun _ => .inl (0, 0, .inl (fun _ => 0)))) := by rw [wt_pl_nil, List.append_nil]; exact w3
  refine va_mna (X := wt_bw (wt_xw X) ad σ U next) (L := []) (ty := .int) (cy := wt_wI (wt_xw X)) (N' := N) (K' := M) (z := (M, .inl (fun _ => 0))) h.1 h.2.1 h.2.2.2.2.1 (hts _ hl0) hov (hts _ hw0) (hKK.2 0 _ rfl).2 hKK w2' w3' hS wt_Asz hn1 hn2 hN hM (by omega) (by show M * 4 ≤ _; omega) (by omega) rfl rfl (by omega) (by omega) (fun c => (arrV_new c M (.int 0))) hd fun q r cA H1 e1 e2 g1 g2 g3 g4 => ?_
  have f1 := (hKK.2 1 _ rfl).2
  have f2 := (g1.2 3 (cA, .array .int) rfl).2
  have f3 : wt_wJ (wt_xw X) = cA := Option.some.inj (f1.symm.trans f2)
  subst f3
  have hgr : ∀ t, t < next → wt_growN ad next q r t = ad t := fun t ht => by
    unfold wt_growN
    rw [if_pos ht]
  have hE := wt_bw_many (w := wt_xw X) (ad := ad) (σ := σ) (U := U) (U' := L ++ U) (next := next) (q := q) (N := N) (r := r) (e := .inl (wt_wJ (wt_xw X), N, .inr (.inr (.inr (.inr (fun i => if i < N then some (r i) else none)))))) (er := .inl (wt_wI (wt_xw X), (M, .inl (fun _ => 0)))) (by
      unfold wt_pe
      rw [hL]
      refine congrArg _ (congrArg _ (congrArg _ (congrArg _ (congrArg _ (congrArg _ (congrArg _ (funext fun j => ?_)))))))
      show (if j < N ∧ next + 1 + j < next + 1 + N then some (wt_growN ad next q r (next + 1 + j)) else none) = _
      by_cases hj : j < N
      · rw [if_pos ⟨hj, by omega⟩, if_pos hj]
        refine congrArg some ?_
        unfold wt_growN
        rw [if_neg (by omega), if_neg (by omega)]
        congr 1
        omega
      · rw [if_neg (fun z => hj z.1), if_neg hj]) (fun i hi => by
      unfold wt_pe
      rw [hrows i hi]
      dsimp only
      have : wt_ga σ (next + 1 + i) = fun _ => 0 := funext (w4 (next + 1 + i) (by omega)).2
      rw [this]) (fun j hj => wt_bOkN_use (by omega) hbo hj hgr)
  have hpl : va_pl ([] ++ (List.range N).map r) (vr_up (fun _ => .inl (0, 0, .inl (fun _ => 0))) ((List.range N).map r) (.inl (wt_wI (wt_xw X), (M, .inl (fun _ => 0))))) = ((List.range N).map r).map (fun a => ((a, .inl (wt_wI (wt_xw X), (M, .inl (fun _ => 0)))) : Nat × va_E)) := by
    rw [List.nil_append]
    unfold va_pl
    apply List.map_congr_left
    intro a ha
    rw [vr_up_in ha]
  rw [hpl] at g2 g3
  rw [hE] at g2 g3
  have := kk (wt_growN ad next q r) H1 locs ls (ce + 1 + N) (sl + N + N * M) (by omega) (by omega) ⟨fun i hi => ⟨(hgr i (w1 i hi).2).trans (w1 i hi).1, by have := (w1 i hi).2; omega⟩, g2, g3, fun i hi => w4 i (by omega)⟩ g4 (by rw [wt_same_lv hgr hlv]; exact hl)
  have e4 : (Sum.inr next :: st : List wt_Q).map (wt_qv (wt_growN ad next q r)) = .ref q :: st.map (wt_qv ad) := by
    rw [List.map_cons, wt_same_st hgr hst]
    refine congrArg (· :: _) ?_
    show Value.ref _ = _
    unfold wt_growN
    rw [if_neg (Nat.lt_irrefl _), if_pos rfl]
  rw [e4] at this
  exact this
/-- a row's own budget may be rounded up -/
theorem wt_bn_up {X : wt_X} {k n k' n' next : Nat} {U : wt_U} {σ : wt_St} {pc : Nat} {lv : List (Option wt_Q)} {st : List wt_Q} (hk : k ≤ k') (hn : n ≤ n') (h : wt_B X k' n' next U σ pc lv st) : wt_B X k n next U σ pc lv st :=
  fun ad H locs ls ce sl h1 h2 hw hS hl => h ad H locs ls ce sl (by omega) (by omega) hw hS hl
