section WT2
variable {X : wt_X} {cc : ByteArray} {nL : Nat} {own : String} {d Km K : Nat} {σ : wt_St} {pc : Nat} {lv : List (Option Value)} {st : List Value}
theorem wt_if_ge (h : wt_Ok X cc nL own d Km) {x : Int32} {off : Int} (tgt : Nat) (hd : decode cc pc = .ok (.ifCond .ge off, 3)) (ht : (pc : Int) + off = (tgt : Int)) (kt : 0 ≤ x → wt_V X K σ tgt lv st) (kf : ¬ 0 ≤ x → wt_V X K σ (pc + 3) lv st) : wt_V X K σ pc lv (.int x :: st) :=
  fun H locs ls ce sl h1 h2 hw hS hl => lv_if_ge h.1 h.2.1 hd ht (fun c => kt c H locs ls ce sl h1 h2 hw hS hl) (fun c => kf c H locs ls ce sl h1 h2 hw hS hl)
theorem wt_if_gt (h : wt_Ok X cc nL own d Km) {x : Int32} {off : Int} (tgt : Nat) (hd : decode cc pc = .ok (.ifCond .gt off, 3)) (ht : (pc : Int) + off = (tgt : Int)) (kt : 0 < x → wt_V X K σ tgt lv st) (kf : ¬ 0 < x → wt_V X K σ (pc + 3) lv st) : wt_V X K σ pc lv (.int x :: st) :=
  fun H locs ls ce sl h1 h2 hw hS hl => lv_if_gt h.1 h.2.1 hd ht (fun c => kt c H locs ls ce sl h1 h2 hw hS hl) (fun c => kf c H locs ls ce sl h1 h2 hw hS hl)
theorem wt_if_le (h : wt_Ok X cc nL own d Km) {x : Int32} {off : Int} (tgt : Nat) (hd : decode cc pc = .ok (.ifCond .le off, 3)) (ht : (pc : Int) + off = (tgt : Int)) (kt : x ≤ 0 → wt_V X K σ tgt lv st) (kf : ¬ x ≤ 0 → wt_V X K σ (pc + 3) lv st) : wt_V X K σ pc lv (.int x :: st) :=
  fun H locs ls ce sl h1 h2 hw hS hl => lv_if_le h.1 h.2.1 hd ht (fun c => kt c H locs ls ce sl h1 h2 hw hS hl) (fun c => kf c H locs ls ce sl h1 h2 hw hS hl)
theorem wt_icmp_eq (h : wt_Ok X cc nL own d Km) {x y : Int32} {off : Int} (tgt : Nat) (hd : decode cc pc = .ok (.if_icmp .eq off, 3)) (ht : (pc : Int) + off = (tgt : Int)) (kt : x = y → wt_V X K σ tgt lv st) (kf : ¬ x = y → wt_V X K σ (pc + 3) lv st) : wt_V X K σ pc lv (.int y :: .int x :: st) :=
  fun H locs ls ce sl h1 h2 hw hS hl => lv_icmp_eq h.1 h.2.1 hd ht (fun c => kt c H locs ls ce sl h1 h2 hw hS hl) (fun c => kf c H locs ls ce sl h1 h2 hw hS hl)
theorem wt_icmp_ne (h : wt_Ok X cc nL own d Km) {x y : Int32} {off : Int} (tgt : Nat) (hd : decode cc pc = .ok (.if_icmp .ne off, 3)) (ht : (pc : Int) + off = (tgt : Int)) (kt : ¬ x = y → wt_V X K σ tgt lv st) (kf : x = y → wt_V X K σ (pc + 3) lv st) : wt_V X K σ pc lv (.int y :: .int x :: st) :=
  fun H locs ls ce sl h1 h2 hw hS hl => lv_icmp_ne h.1 h.2.1 hd ht (fun c => kt c H locs ls ce sl h1 h2 hw hS hl) (fun c => kf c H locs ls ce sl h1 h2 hw hS hl)
theorem wt_icmp_lt (h : wt_Ok X cc nL own d Km) {x y : Int32} {off : Int} (tgt : Nat) (hd : decode cc pc = .ok (.if_icmp .lt off, 3)) (ht : (pc : Int) + off = (tgt : Int)) (kt : x < y → wt_V X K σ tgt lv st) (kf : ¬ x < y → wt_V X K σ (pc + 3) lv st) : wt_V X K σ pc lv (.int y :: .int x :: st) :=
  fun H locs ls ce sl h1 h2 hw hS hl => lv_icmp_lt h.1 h.2.1 hd ht (fun c => kt c H locs ls ce sl h1 h2 hw hS hl) (fun c => kf c H locs ls ce sl h1 h2 hw hS hl)
theorem wt_icmp_ge (h : wt_Ok X cc nL own d Km) {x y : Int32} {off : Int} (tgt : Nat) (hd : decode cc pc = .ok (.if_icmp .ge off, 3)) (ht : (pc : Int) + off = (tgt : Int)) (kt : y ≤ x → wt_V X K σ tgt lv st) (kf : ¬ y ≤ x → wt_V X K σ (pc + 3) lv st) : wt_V X K σ pc lv (.int y :: .int x :: st) :=
  fun H locs ls ce sl h1 h2 hw hS hl => lv_icmp_ge h.1 h.2.1 hd ht (fun c => kt c H locs ls ce sl h1 h2 hw hS hl) (fun c => kf c H locs ls ce sl h1 h2 hw hS hl)
theorem wt_icmp_gt (h : wt_Ok X cc nL own d Km) {x y : Int32} {off : Int} (tgt : Nat) (hd : decode cc pc = .ok (.if_icmp .gt off, 3)) (ht : (pc : Int) + off = (tgt : Int)) (kt : y < x → wt_V X K σ tgt lv st) (kf : ¬ y < x → wt_V X K σ (pc + 3) lv st) : wt_V X K σ pc lv (.int y :: .int x :: st) :=
  fun H locs ls ce sl h1 h2 hw hS hl => lv_icmp_gt h.1 h.2.1 hd ht (fun c => kt c H locs ls ce sl h1 h2 hw hS hl) (fun c => kf c H locs ls ce sl h1 h2 hw hS hl)
theorem wt_icmp_le (h : wt_Ok X cc nL own d Km) {x y : Int32} {off : Int} (tgt : Nat) (hd : decode cc pc = .ok (.if_icmp .le off, 3)) (ht : (pc : Int) + off = (tgt : Int)) (kt : x ≤ y → wt_V X K σ tgt lv st) (kf : ¬ x ≤ y → wt_V X K σ (pc + 3) lv st) : wt_V X K σ pc lv (.int y :: .int x :: st) :=
  fun H locs ls ce sl h1 h2 hw hS hl => lv_icmp_le h.1 h.2.1 hd ht (fun c => kt c H locs ls ce sl h1 h2 hw hS hl) (fun c => kf c H locs ls ce sl h1 h2 hw hS hl)
theorem wt_tsIn (h : wt_Ok X cc nL own d Km) {dflt lo hi : Int} {offs : Array Int} {len : Nat} {x c : Int32} {off : Int} (tgt : Nat) (hc : x = c) (hd : decode cc pc = .ok (.tableswitch dflt lo hi offs, len)) (h1 : ¬ c.toInt < lo) (h2 : ¬ hi < c.toInt) (ho : offs[(c.toInt - lo).toNat]? = some off) (ht : (pc : Int) + off = (tgt : Int)) (k : wt_V X K σ tgt lv st) : wt_V X K σ pc lv (.int x :: st) :=
  fun H locs ls ce sl h3 h4 hw hS hl => lv_tableIn h.1 h.2.1 hd (by rw [hc]; exact h1) (by rw [hc]; exact h2) (by rw [hc]; exact ho) ht (k H locs ls ce sl h3 h4 hw hS hl)
theorem wt_tsOut (h : wt_Ok X cc nL own d Km) {dflt hi : Int} {offs : Array Int} {len : Nat} {x : Int32} (n tgt : Nat) (hhi : hi + 1 = (n : Int)) (hn : n < 1000) (hx : ∀ j : Nat, j < n → ¬ x = nI j) (hd : decode cc pc = .ok (.tableswitch dflt 0 hi offs, len)) (ht : (pc : Int) + dflt = (tgt : Int)) (k : wt_V X K σ tgt lv st) : wt_V X K σ pc lv (.int x :: st) := by
  refine fun H locs ls ce sl h3 h4 hw hS hl => lv_tableOut h.1 h.2.1 hd ?_ ht (k H locs ls ce sl h3 h4 hw hS hl)
  by_cases h0 : x.toInt < 0
  · exact Or.inl h0
  · refine Or.inr ?_
    by_cases h5 : x.toInt < n
    · exfalso
      refine hx x.toInt.toNat (by omega) (Int32.toInt_inj.mp ?_)
      rw [nI_toInt (by omega)]
      omega
    · omega
/-! arrays -/
theorem wt_iald (h : wt_Ok X cc nL own d Km) {r n : Nat} {rs : List Nat} {i : Int32} (hr : wt_dom (wt_xw X) r) (hL : wt_LAY[r]? = some (0, n, rs)) (hin : vp_in i n) (hd : decode cc pc = .ok (.iaload, 1)) (k : wt_V X K σ (pc + 1) lv (.int (wt_ga σ r i.toNatClampNeg) :: st)) : wt_V X K σ pc lv (.int i :: .ref (wt_ad (wt_xw X) r) :: st) := by
  intro H locs ls ce sl h1 h2 hw hS hl
  have hP := hw.one hr
  unfold wt_cell at hP
  rw [wt_ce_arr hL] at hP
  exact va_iald h.1 h.2.1 h.2.2.2.2.2.2.1 hP 0 0 rfl rfl hin hd (k H locs ls ce sl h1 h2 hw hS hl)
theorem wt_iast (h : wt_Ok X cc nL own d Km) {r n : Nat} {rs : List Nat} {i x : Int32} (hr : wt_dom (wt_xw X) r) (hL : wt_LAY[r]? = some (0, n, rs)) (hin : vp_in i n) (hd : decode cc pc = .ok (.iastore, 1)) (k : wt_V X K (wt_sa σ r i.toNatClampNeg x) (pc + 1) lv st) : wt_V X K σ pc lv (.int x :: .int i :: .ref (wt_ad (wt_xw X) r) :: st) := by
  intro H locs ls ce sl h1 h2 hw hS hl
  have hP := hw.1 r hr
  unfold wt_cell at hP
  rw [wt_ce_arr hL] at hP
  refine W.iast h.1 h.2.1 hP ((h.2.2.2.2.2.2.1.2 0 _ rfl).1 n (fun j => .int (wt_ga σ r j))) (fun q => by cases q) (by show ¬ (i < 0 ∨ (arrV _ _ _).slots.size ≤ _); rw [arrV_size]; exact hin) rfl rfl hd fun H1 e z oq => ?_
  refine k H1 _ ls ce sl h1 h2 (hw.put (σ' := wt_sa σ r i.toNatClampNeg x) hr ?_ (fun j hj => wt_ce_sa hj) oq) (hS.put z oq (Or.inl ⟨r, hr, rfl⟩)) hl
  unfold wt_cell
  rw [wt_ce_arr hL]
  show H1[_]? = some (vp_cell _ _)
  rw [e, vp_cell_i, vp_cell_i, arrV_store]
  congr 2
  funext q
  by_cases hq : q = i.toNatClampNeg
  · subst hq
    simp [updV, wt_ga_sa]
  · simp [updV, wt_ga_sa, hq]
theorem wt_alen (h : wt_Ok X cc nL own d Km) {r n : Nat} {rs : List Nat} (v : Int32) (hr : wt_dom (wt_xw X) r) (hL : wt_LAY[r]? = some (0, n, rs)) (hv : Int32.ofNat n = v) (hd : decode cc pc = .ok (.arraylength, 1)) (k : wt_V X K σ (pc + 1) lv (.int v :: st)) : wt_V X K σ pc lv (.ref (wt_ad (wt_xw X) r) :: st) := by
  intro H locs ls ce sl h1 h2 hw hS hl
  have hP := hw.one hr
  unfold wt_cell at hP
  rw [wt_ce_arr hL] at hP
  exact va_alen h.1 h.2.1 h.2.2.2.2.2.2.1 hP 0 0 rfl rfl hv hd (k H locs ls ce sl h1 h2 hw hS hl)
theorem wt_alen1 (h : wt_Ok X cc nL own d Km) {r n : Nat} {rs : List Nat} (v : Int32) (hr : wt_dom (wt_xw X) r) (hL : wt_LAY[r]? = some (1, n, rs)) (hv : Int32.ofNat n = v) (hd : decode cc pc = .ok (.arraylength, 1)) (k : wt_V X K σ (pc + 1) lv (.int v :: st)) : wt_V X K σ pc lv (.ref (wt_ad (wt_xw X) r) :: st) := by
  intro H locs ls ce sl h1 h2 hw hS hl
  have hP := hw.one hr
  unfold wt_cell at hP
  rw [wt_ce_gr hL] at hP
  exact va_alen h.1 h.2.1 h.2.2.2.2.2.2.1 hP 0 1 rfl rfl hv hd (k H locs ls ce sl h1 h2 hw hS hl)
theorem wt_alen2 (h : wt_Ok X cc nL own d Km) {r n : Nat} {rs : List Nat} (v : Int32) (hr : wt_dom (wt_xw X) r) (hL : wt_LAY[r]? = some (2, n, rs)) (hv : Int32.ofNat n = v) (hd : decode cc pc = .ok (.arraylength, 1)) (k : wt_V X K σ (pc + 1) lv (.int v :: st)) : wt_V X K σ pc lv (.ref (wt_ad (wt_xw X) r) :: st) := by
  intro H locs ls ce sl h1 h2 hw hS hl
  have hP := hw.one hr
  unfold wt_cell at hP
  rw [wt_ce_st hL] at hP
  exact va_alen h.1 h.2.1 h.2.2.2.2.2.2.1 hP 0 2 rfl rfl hv hd (k H locs ls ce sl h1 h2 hw hS hl)
/-- a row of a grid: its id is the base's and the index -/
theorem wt_aald1 (h : wt_Ok X cc nL own d Km) {r n b : Nat} {i : Int32} (hr : wt_dom (wt_xw X) r) (hL : wt_LAY[r]? = some (1, n, [b])) (hin : vp_in i n) (hd : decode cc pc = .ok (.aaload, 1)) (k : wt_V X K σ (pc + 1) lv (.ref (wt_ad (wt_xw X) (b + i.toNatClampNeg)) :: st)) : wt_V X K σ pc lv (.int i :: .ref (wt_ad (wt_xw X) r) :: st) := by
  intro H locs ls ce sl h1 h2 hw hS hl
  have hP := hw.1 r hr
  unfold wt_cell at hP
  rw [wt_ce_gr hL] at hP
  have hlt : i.toNatClampNeg < n := Nat.not_le.mp fun q => hin (Or.inr q)
  refine W.aald (v := .ref (wt_ad (wt_xw X) (b + i.toNatClampNeg))) (ty := .array .int) h.1 h.2.1 hP ((h.2.2.2.2.2.2.1.2 1 _ rfl).1 n (fun j => va_rf (if j < n then some (wt_ad (wt_xw X) (([b] : List Nat).getD 0 0 + j)) else none))) rfl (fun q => by cases q) (by show ¬ (i < 0 ∨ (arrV _ _ _).slots.size ≤ _); rw [arrV_size]; exact hin) (by show (arrV _ _ _).slots[_]? = _; rw [arrV_read _ _ hlt]; show some (va_rf (if i.toNatClampNeg < n then some _ else none)) = _; rw [if_pos hlt]; rfl) rfl rfl hd (k H locs ls ce sl h1 h2 hw hS hl)
theorem wt_aald2 (h : wt_Ok X cc nL own d Km) {r n b f : Nat} {i : Int32} (hr : wt_dom (wt_xw X) r) (hL : wt_LAY[r]? = some (2, n, [b, f])) (hin : vp_in i n) (hd : decode cc pc = .ok (.aaload, 1)) (k : wt_V X K σ (pc + 1) lv (.ref (wt_ad (wt_xw X) (b + f * i.toNatClampNeg)) :: st)) : wt_V X K σ pc lv (.int i :: .ref (wt_ad (wt_xw X) r) :: st) := by
  intro H locs ls ce sl h1 h2 hw hS hl
  have hP := hw.1 r hr
  unfold wt_cell at hP
  rw [wt_ce_st hL] at hP
  have hlt : i.toNatClampNeg < n := Nat.not_le.mp fun q => hin (Or.inr q)
  refine W.aald (v := .ref (wt_ad (wt_xw X) (b + f * i.toNatClampNeg))) (ty := .object "WornType$State") h.1 h.2.1 hP ((h.2.2.2.2.2.2.1.2 2 _ rfl).1 n (fun j => va_rf (if j < n then some (wt_ad (wt_xw X) (([b, f] : List Nat).getD 0 0 + ([b, f] : List Nat).getD 1 0 * j)) else none))) rfl (fun q => by cases q) (by show ¬ (i < 0 ∨ (arrV _ _ _).slots.size ≤ _); rw [arrV_size]; exact hin) (by show (arrV _ _ _).slots[_]? = _; rw [arrV_read _ _ hlt]; show some (va_rf (if i.toNatClampNeg < n then some _ else none)) = _; rw [if_pos hlt]; rfl) rfl rfl hd (k H locs ls ce sl h1 h2 hw hS hl)
/-! fields: own's pool place idx is field k of class ci -/
def wt_Lk (own : String) (idx ci k : Nat) (fin : Bool) : Prop := ∃ (C : String) (T : u_T) (N : Nat) (ty : Nat → FieldType), wt_cl[ci]? = some (C, T, N) ∧ wt_CF C T N ty ∧ k < N ∧ (T k).1 = C ∧ (T k).2.2.2 = fin ∧ (Cond.fieldLink own idx C (T k).2.1 (T k).2.2.1 ∈ wt_GT ∨ ∃ host, Cond.fieldLinkNest own idx C (T k).2.1 (T k).2.2.1 host ∈ wt_NT)
theorem wt_NWn {U : State} (h : wt_NW U) {w : Cond} (hw : w ∈ wt_NT) {A : Array Value} : w.before A U = true := by
  have h1 := (List.mem_filter.mp hw).2
  have h2 := h w hw
  cases w <;> first | exact va_Nw.use rfl h2 | cases h1
theorem wt_getv (h : wt_Ok X cc nL own d Km) {i idx ci k n : Nat} {fin : Bool} {rs : List Nat} {r : Nat} (lk : wt_Lk own idx ci k fin) (hr : wt_dom (wt_xw X) i) (hL : wt_LAY[i]? = some (ci + 3, n, rs)) (hk : rs[k]? = some r) (hd : decode cc pc = .ok (.getfield idx, 3)) (kk : wt_V X K σ (pc + 3) lv (wt_fv (wt_ad (wt_xw X)) σ i k r :: st)) : wt_V X K σ pc lv (.ref (wt_ad (wt_xw X) i) :: st) := by
  intro H locs ls ce sl h1 h2 hw hS hl
  have hP := hw.one hr
  unfold wt_cell at hP
  rw [wt_ce_ob hL] at hP
  obtain ⟨C, T, N, ty, hc, hcf, hkN, hC, -, hlink⟩ := lk
  rcases hlink with hlink | ⟨host, hlink⟩
  · exact va_get h.1 h.2.1 h.2.2.2.2.2.1 hcf.1 h.2.2.2.2.1 h.2.2.2.2.2.2.1 hP 0 rfl hc k hkN (h.2.2.2.2.2.1 _ hlink) (fun x hx => by rw [hC] at hx; exact hx) (wt_fs_get hk) hd (kk H locs ls ce sl h1 h2 hw hS hl)
  · exact va_getN h.1 h.2.1 h.2.2.2.2.2.1 hcf.1 h.2.2.2.2.1 h.2.2.2.2.2.2.1 hP 0 rfl hc k hkN (wt_NWn h.2.2.2.2.2.2.2.1 hlink) (fun x hx => by rw [hC] at hx; exact hx) (wt_fs_get hk) hd (kk H locs ls ce sl h1 h2 hw hS hl)
theorem wt_geti (h : wt_Ok X cc nL own d Km) {i idx ci k n : Nat} {fin : Bool} {rs : List Nat} (lk : wt_Lk own idx ci k fin) (hr : wt_dom (wt_xw X) i) (hL : wt_LAY[i]? = some (ci + 3, n, rs)) (hk : rs[k]? = some 0) (hd : decode cc pc = .ok (.getfield idx, 3)) (kk : wt_V X K σ (pc + 3) lv (.int (wt_gf σ i k) :: st)) : wt_V X K σ pc lv (.ref (wt_ad (wt_xw X) i) :: st) := wt_getv h lk hr hL hk hd kk
theorem wt_getr (h : wt_Ok X cc nL own d Km) {i idx ci k n : Nat} {fin : Bool} {rs : List Nat} {r : Nat} (lk : wt_Lk own idx ci k fin) (hr : wt_dom (wt_xw X) i) (hL : wt_LAY[i]? = some (ci + 3, n, rs)) (hk : rs[k]? = some (r + 1)) (hd : decode cc pc = .ok (.getfield idx, 3)) (kk : wt_V X K σ (pc + 3) lv (.ref (wt_ad (wt_xw X) r) :: st)) : wt_V X K σ pc lv (.ref (wt_ad (wt_xw X) i) :: st) := wt_getv h lk hr hL hk hd kk
theorem wt_puti (h : wt_Ok X cc nL own d Km) {i idx ci k n : Nat} {rs : List Nat} {v : Int32} (lk : wt_Lk own idx ci k false) (hr : wt_dom (wt_xw X) i) (hL : wt_LAY[i]? = some (ci + 3, n, rs)) (hk : rs[k]? = some 0) (hty : ∀ q, wt_cl[ci]? = some q → (q.2.1 k).2.2.1 = "I") (hd : decode cc pc = .ok (.putfield idx, 3)) (kk : wt_V X K (wt_sf σ i k v) (pc + 3) lv st) : wt_V X K σ pc lv (.int v :: .ref (wt_ad (wt_xw X) i) :: st) := by
  intro H locs ls ce sl h1 h2 hw hS hl
  have hP := hw.1 i hr
  unfold wt_cell at hP
  rw [wt_ce_ob hL] at hP
  obtain ⟨C, T, N, ty, hc, hcf, hkN, hC, hfin, hlink⟩ := lk
  have hdI : parseFieldDescriptor (T k).2.2.1 = some .int := by rw [hty _ hc]; rfl
  have hap := va_apart (own := own) h.2.2.2.2.2.1 hcf.1 ty hcf.2.1 hcf.2.2 h.2.2.2.2.2.2.1 hc
  obtain ⟨r, g1, cell, q1, q2, q3, q4⟩ := hP
  have hr0 : r = (C, T, N) := Option.some.inj (g1.symm.trans hc)
  subst hr0
  obtain ⟨hSl, hfc, kC, hkC, hkind⟩ := h.2.2.2.2.2.2.1.1 ci _ hc
  obtain ⟨cf, kf, fi, f, hi, hsl⟩ := hSl k hkN
  have hlay := h.2.2.2.2.2.1 _ (hcf.1 _ (u_in_lay hkN))
  unfold u_lay at hlay
  rw [if_neg (by rw [hfin]; decide)] at hlay
  have hst := (u_facts hfc hkC (u_lays h.2.2.2.2.2.1 hcf.1 hkN) hi).1
  have h6 := u_store hfc hkC hkind hlay hi hdI (v := .int v) rfl rfl
  have hsame : ∀ x, (wt_xs X).fieldFound? (T k).1 (T k).2.1 (T k).2.2.1 = some x → (wt_xs X).fieldFound? C (T k).2.1 (T k).2.2.1 = some x := fun x hx => by rw [hC] at hx; exact hx
  have go : ∀ H' : Heap, H'[wt_ad (wt_xw X) i]? = some (cell.setSlot f.slot (.int v)) → H'.size = H.size → (∀ q, q ≠ wt_ad (wt_xw X) i → H'[q]? = H[q]?) → wt_W X H' (locs ++ [⟨wt_ad (wt_xw X) i, f.slot⟩]) ce sl (F0 (wt_xm X) (pc + 3) ls st) := by
    intro H' e1 e2 e3
    rw [hsl] at e1
    refine kk H' _ ls ce sl h1 h2 (hw.put (σ' := wt_sf σ i k v) hr ?_ (fun j hj => wt_ce_sf hj) e3) (hS.put e2 e3 (Or.inl ⟨i, hr, rfl⟩)) hl
    unfold wt_cell
    rw [wt_ce_ob hL, ← wt_fs_set hk]
    exact ⟨_, hc, t_OB.to (V := updV (vp_V _) k (.int v)) ⟨_, e1, q2, q3, t_set q4 hap hkN (.int v)⟩ (fun j _ => vp_updV_set (by simpa using (List.getElem?_eq_some_iff.mp hk).1) (.int v) j)⟩
  rcases hlink with hlink | ⟨host, hlink⟩
  · exact W.putK h.1 h.2.1 (f := f) ⟨h.2.2.2.2.1, h.2.2.2.2.2.1 _ hlink, ⟨_, _, _, hsame _ hi⟩, hst⟩ (by rw [q2]; exact h6) q1 q3 (by rw [hsl]; exact k2_hasslot (q4 k hkN)) rfl rfl hd go
  · exact va_WputK h.1 h.2.1 (f := f) h.2.2.2.2.1 (wt_NWn h.2.2.2.2.2.2.2.1 hlink) (hsame _ hi) hst (by rw [q2]; exact h6) q1 q3 (by rw [hsl]; exact k2_hasslot (q4 k hkN)) rfl rfl hd go
theorem wt_min (h : wt_Ok X cc nL own d Km) {index : Nat} {x y : Int32} (hl0 : Cond.methodLink own index Lib.Math.min.name ∈ wt_GT) (hs0 : Cond.static Lib.Math.min.name ∈ wt_GT) (hi0 : Cond.initialized "java/lang/Math" ∈ wt_GT) (hc0 : Cond.code Lib.Math.min.name Lib.Math.min.code 2 (some .int) ∈ wt_GT) (hd1 : 1 ≤ d) (hK : K ≤ Km) (hst : (st.map fun v => v.category).sum ≤ 8) (hd : decode cc pc = .ok (.invokestatic index, 3)) (k : wt_V X K σ (pc + 3) lv (.int (if y < x then y else x) :: st)) : wt_V X K σ pc lv (.int y :: .int x :: st) := by
  intro H locs ls ce sl h1 h2 hw hS hl
  obtain ⟨hx, hb, hml, hn, hown, hts, -, -, r1, r2, r3, r4, -⟩ := h
  exact va_mmin hx hb (by rw [hml, ← hn, hl.1]) hown (hts _ hl0) (hts _ hs0) (hts _ hi0) (hts _ hc0) (by omega) (by omega) (by omega) (by omega) hd (k H locs ls ce sl h1 h2 hw hS hl)
theorem wt_max (h : wt_Ok X cc nL own d Km) {index : Nat} {x y : Int32} (hl0 : Cond.methodLink own index Lib.Math.max.name ∈ wt_GT) (hs0 : Cond.static Lib.Math.max.name ∈ wt_GT) (hi0 : Cond.initialized "java/lang/Math" ∈ wt_GT) (hc0 : Cond.code Lib.Math.max.name Lib.Math.max.code 2 (some .int) ∈ wt_GT) (hd1 : 1 ≤ d) (hK : K ≤ Km) (hst : (st.map fun v => v.category).sum ≤ 8) (hd : decode cc pc = .ok (.invokestatic index, 3)) (k : wt_V X K σ (pc + 3) lv (.int (if x < y then y else x) :: st)) : wt_V X K σ pc lv (.int y :: .int x :: st) := by
  intro H locs ls ce sl h1 h2 hw hS hl
  obtain ⟨hx, hb, hml, hn, hown, hts, -, -, r1, r2, r3, r4, -⟩ := h
  exact va_mmax hx hb (by rw [hml, ← hn, hl.1]) hown (hts _ hl0) (hts _ hs0) (hts _ hi0) (hts _ hc0) (by omega) (by omega) (by omega) (by omega) hd (k H locs ls ce sl h1 h2 hw hS hl)
end WT2
