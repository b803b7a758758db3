/-! lacks, can, word on both sides -/
theorem wu_RL_z0 {s z z0 : wt_St} (rl : wu_RL s z) (r : wt_RI z) (g : wt_fr (fun i k => i = 108 ∧ k = 0) (fun _ => False) z z0) : wu_RL s z0 := wu_RL_fr rl r (wt_fr.rf (F := fun _ _ => False) (A := fun _ => False)) g (fun _ _ _ h => h) (fun _ _ h => h) (fun k hk => by unfold wu_RG at hk; (try dsimp only); omega) (fun _ _ h => h)
theorem wu_nw_pos {s z : wt_St} {W w : Nat} (h : wt_tt 20 126 128 130 193 W s z) (hw : w < W) : ∃ l : Nat, l < 26 ∧ 0 < wt_nw z w (l : Int) := by
  obtain ⟨a, -, -, b, -, e⟩ := h w hw
  obtain ⟨e1, e2, e3⟩ := e 0 (by show ((0 : Nat) : Int) < _; omega)
  have et := wt_tnI e2
  rw [e1] at et e3
  have el := wt_tnI (x := wt_ga s (20 + 2) w) (by omega)
  rw [a] at el b
  refine ⟨Int32.toNatClampNeg (wt_ga z (193 + w) 0), by omega, ?_⟩
  have h1 := wt_sum_pre (f := fun k => if (wt_ga z (193 + w) k).toInt = ((Int32.toNatClampNeg (wt_ga z (193 + w) 0) : Nat) : Int) then 1 else 0) (a := 1) (Int32.toNatClampNeg (wt_ga z 126 w)) (by omega) (fun k _ => by
    show (0 : Int) ≤ if (wt_ga z (193 + w) k).toInt = ((Int32.toNatClampNeg (wt_ga z (193 + w) 0) : Nat) : Int) then 1 else 0
    split <;> omega)
  have h2 : wt_sum (fun k => if (wt_ga z (193 + w) k).toInt = ((Int32.toNatClampNeg (wt_ga z (193 + w) 0) : Nat) : Int) then 1 else 0) 1 ≤ wt_nw z w ((Int32.toNatClampNeg (wt_ga z (193 + w) 0) : Nat) : Int) := h1
  have h0 : wt_sum (fun k => if (wt_ga z (193 + w) k).toInt = ((Int32.toNatClampNeg (wt_ga z (193 + w) 0) : Nat) : Int) then 1 else 0) 1 = 1 := by
    show (0 : Int) + (if (wt_ga z (193 + w) 0).toInt = ((Int32.toNatClampNeg (wt_ga z (193 + w) 0) : Nat) : Int) then 1 else 0) = 1
    rw [if_pos et.symm]
    rfl
  rw [h0] at h2
  omega
theorem wu_nt_pos {s z : wt_St} {t : Nat} (to : wt_TO s z) (x : wu_X1 s z t) : ∃ l : Nat, l < 26 ∧ 0 < wt_nt z t (l : Int) := by
  obtain ⟨W, G, ⟨-, w2, -⟩, -, tt, -⟩ := to
  obtain ⟨m, m1, m2, m3, -, m5, -⟩ := x
  obtain ⟨e1, e2, e3⟩ := m5 0 (by omega)
  have et := wt_tnI e2
  rw [e1] at et e3
  obtain ⟨l, l1, l2⟩ := wu_nw_pos tt (w := Int32.toNatClampNeg (wt_ga z (255 + t) 0)) (by omega)
  refine ⟨l, l1, ?_⟩
  have em : Int32.toNatClampNeg (wt_ga z 253 t) = m := by
    rw [m2]
    exact wt_tnN m1
  have h1 := wt_sum_pre (f := fun k => wt_nw z (Int32.toNatClampNeg (wt_ga z (255 + t) k)) (l : Int)) (a := 1) (Int32.toNatClampNeg (wt_ga z 253 t)) (by omega) (fun k _ => (wt_ct_bd _ _ _).1)
  have h2 : wt_sum (fun k => wt_nw z (Int32.toNatClampNeg (wt_ga z (255 + t) k)) (l : Int)) 1 ≤ wt_nt z t (l : Int) := h1
  have h0 : wt_sum (fun k => wt_nw z (Int32.toNatClampNeg (wt_ga z (255 + t) k)) (l : Int)) 1 = 0 + wt_nw z (Int32.toNatClampNeg (wt_ga z (255 + t) 0)) (l : Int) := rfl
  rw [h0] at h2
  omega
/-- what a text needs, laid out on both sides -/
theorem wr_spell (n : Nat) (hn : 4294967297 < n) {a : Nat} {x1 : Int32} {s z : wt_St} (ha : wt_ln a = 26) (h37 : a ≠ 37) (r : wt_RI z) (to : wt_TO s z) (tx : wu_TX s z) (h0 : 0 ≤ x1.toInt) (h1 : x1.toInt < (wt_gf z 108 39).toInt) : wt_HH (wp_tx_spell n a x1 s) (wp_md_needsText n x1 z) (fun q y => wt_fr (fun _ _ => False) (fun i => i = a) s q ∧ wt_fr (fun _ _ => False) (fun i => i = 287) z y ∧ wt_RI y ∧ (∀ l, l < 26 → wt_ga q a l = wt_ga y 287 l) ∧ (∃ l : Nat, l < 26 ∧ 0 < (wt_ga y 287 l).toInt) ∧ (∀ l : Nat, l < 26 → (wt_ga y 287 l).toInt = wt_nt z (Int32.toNatClampNeg x1) (l : Int)) ∧ wt_NB y) := by
  have hz : 0 ≤ (wt_gf z 108 39).toInt ∧ (wt_gf z 108 39).toInt ≤ 8 := wt_Rf7 r
  have et := wt_tnI h0
  have X := tx.2 (Int32.toNatClampNeg x1) (by omega)
  refine wt_HH_of (wh_spell n hn (t := Int32.toNatClampNeg x1) ha h37 (by omega) (by omega)) (wq_md_needsText n hn x1 z r h0 (by omega)).h (fun q y hq hy => ?_)
  obtain ⟨f, e⟩ := hq
  obtain ⟨g, ry, nb, d⟩ := hy
  refine ⟨f, g, ry, fun l hl => ?_, ?_, d, nb⟩
  · obtain ⟨tm, -, -, -, -, -, tn6⟩ := X
    refine wt_eqI ?_
    rw [e l hl, tn6 l hl, d l hl]
  · obtain ⟨l, l1, l2⟩ := wu_nt_pos to X
    exact ⟨l, l1, by rw [d l l1]; exact l2⟩
theorem wr_lacks (n : Nat) (hn : 4294967297 < n) {x1 x2 : Int32} {s z : wt_St} (v : wt_IV z) (rl : wu_RL s z) : wt_HH (wp_ap_lacks n x1 x2 s) (wp_md_lacks n x1 x2 z) (fun q y => (q.1 = 2 ∧ wt_gf y.2 108 0 = 1) ∨ (q.1 = 1 ∧ wt_gf y.2 108 0 = 2) ∨ (q.1 = 0 ∧ wt_gf y.2 108 0 = 0 ∧ q.2.1 = y.1)) := by
  unfold wp_ap_lacks wp_md_lacks
  obtain ⟨z0, ε0⟩ : ∃ o : wt_St, o = wt_sf z 108 0 (0 : Int32) := ⟨_, rfl⟩
  rw [← ε0]
  have g0 := wt_fr_sf ε0
  have t0 : wt_gf z0 108 0 = 0 := wt_v_sf ε0
  have r0 : wt_RI z0 := wt_RI_fno v.1 ε0 (Or.inr (by decide +kernel))
  obtain ⟨-, -, to, lc, tx, sc, -⟩ := wu_RL_z0 rl v.1 g0
  have sk := wu_SK_of lc sc
  have hz : 0 ≤ (wt_gf z0 108 39).toInt ∧ (wt_gf z0 108 39).toInt ≤ 8 := wt_Rf7 r0
  refine wr_gT n (wp_ap_lacks_B16 n x1 x2) (wp_md_lacks_B19 n x1 x2) tx.1 hz (wr_mb1 n t0 (by decide) (Or.inl ⟨rfl, wt_v_sf rfl⟩)) (fun hx0 hx1 => wr_mb0 n t0 (wr_gC n (wp_md_lacks_B39 n x1 x2) (wh_b1 n t0 (by decide) (Or.inr (Or.inl ⟨rfl, wt_v_sf rfl⟩))) (fun c1 c2 => wr_b0 n t0 ?_)))
  refine wt_HH_b (wr_spell n hn (a := 107) (by decide) (by decide) r0 to tx hx0 hx1) (fun s1 z1 h => ?_)
  obtain ⟨f1, fn, rz1, nd, -⟩ := h
  have sk1 : wu_SK 40 s1 z1 := wu_SK_fr sk f1 fn ⟨by decide, by decide, by decide⟩ ⟨by decide, by decide, by decide⟩
  have same : ∀ l, l < 26 → (wu_rd s1 40 x2.toInt l < (wt_ga s1 107 l).toInt ↔ wt_go z1 x2.toInt l < (wt_ga z1 287 l).toInt) := fun l hl => by
    rw [wu_rd_go sk1 hl, nd l hl]
  refine wt_HH_b (wt_HH_of (wh_lacking n hn (by decide) (by decide) (fun l hl => (sk1 l hl).2.1)) (wh_lackingM n hn rz1) (Q := fun a b => b.2 = z1 ∧ a.1 = b.1) (fun a b ha hb => ⟨hb.1, wt_fst_u ha.2 hb.2 same⟩)) (fun a b hab => ?_)
  refine wt_HH_some (Or.inr (Or.inr ⟨rfl, ?_, hab.2⟩))
  show wt_gf b.2 108 0 = 0
  rw [hab.1, fn.1 108 0 (fun h => h)]
  exact t0
theorem wr_can (n : Nat) (hn : 4294967297 < n) {x1 : Int32} {s z : wt_St} (v : wt_IV z) (rl : wu_RL s z) : wt_HH (wp_ap_can n x1 s) (wp_md_can n x1 z) (fun q y => (q.1 = 2 ∧ wt_gf y.2 108 0 = 1) ∨ (q.1 = 0 ∧ wt_gf y.2 108 0 = 0 ∧ q.2.1 = y.1)) := by
  unfold wp_ap_can wp_md_can
  obtain ⟨z0, ε0⟩ : ∃ o : wt_St, o = wt_sf z 108 0 (0 : Int32) := ⟨_, rfl⟩
  rw [← ε0]
  have g0 := wt_fr_sf ε0
  have t0 : wt_gf z0 108 0 = 0 := wt_v_sf ε0
  have r0 : wt_RI z0 := wt_RI_fno v.1 ε0 (Or.inr (by decide +kernel))
  obtain ⟨-, -, to, lc, tx, sc, -⟩ := wu_RL_z0 rl v.1 g0
  have sk := wu_SK_of lc sc
  have hz : 0 ≤ (wt_gf z0 108 39).toInt ∧ (wt_gf z0 108 39).toInt ≤ 8 := wt_Rf7 r0
  refine wr_gT n (wp_ap_can_B16 n x1) (wp_md_can_B19 n x1) tx.1 hz (wr_mb1 n t0 (by decide) (Or.inl ⟨rfl, wt_v_sf rfl⟩)) (fun hx0 hx1 => wr_mb0 n t0 ?_)
  refine wt_HH_b (wr_spell n hn (a := 107) (by decide) (by decide) r0 to tx hx0 hx1) (fun s1 z1 h => ?_)
  obtain ⟨f1, fn, rz1, nd, ps, -⟩ := h
  have sk1 : wu_SK 40 s1 z1 := wu_SK_fr sk f1 fn ⟨by decide, by decide, by decide⟩ ⟨by decide, by decide, by decide⟩
  refine wt_HH_b (wr_often n hn (by decide) (by decide) sk1 rz1 nd ps) (fun a b hab => ?_)
  refine wt_HH_some (Or.inr ⟨rfl, ?_, hab.1⟩)
  show wt_gf b.2 108 0 = 0
  rw [hab.2.2, fn.1 108 0 (fun h => h)]
  exact t0
/-- what a word needs -/
theorem wh_spellW (n : Nat) (hn : 4294967297 < n) {a w W : Nat} {x1 : Int32} {s z : wt_St} (ha : wt_ln a = 26) (h21 : a ≠ 21) (h22 : a ≠ 22) (tt : wt_tt 20 126 128 130 193 W s z) (hW : W ≤ 60) (hx : x1.toInt = (w : Int)) (hw : w < W) : wt_H (wp_tg_spell n 20 a x1 s) (fun q => wt_fr (fun _ _ => False) (fun i => i = a) s q ∧ ∀ l, l < 26 → (wt_ga q a l).toInt = wt_nw z w (l : Int)) := by
  have k0 : (0 : Int32).toInt = 0 := by decide
  obtain ⟨a2, -, -, b2, -, e2⟩ := tt w hw
  obtain ⟨m, hm⟩ : ∃ m : Nat, (m : Int) = (wt_ga s (20 + 2) w).toInt := ⟨Int32.toNatClampNeg (wt_ga s (20 + 2) w), wt_tnI (by omega)⟩
  unfold wp_tg_spell
  refine wt_H_bh (wh_fillRow n) (fun s1 h1 => ?_)
  obtain ⟨f1, z1⟩ := h1
  have s21 : ∀ j, wt_ga s1 (20 + 1) j = wt_ga s (20 + 1) j := f1.2 (20 + 1) (fun h => h21 h.symm)
  have s22 : ∀ j, wt_ga s1 (20 + 2) j = wt_ga s (20 + 2) j := f1.2 (20 + 2) (fun h => h22 h.symm)
  refine wt_H_bh (wh_countInto n hn (t0 := 20) (a2 := a) (w := w) (m := m) (c := 0) (by decide) (by decide) ha h21 h22 hx (by omega) (by rw [s22]; exact hm.symm) (by omega) (fun k hk => by rw [s21]; exact (e2 k (by omega)).2) (fun l hl => by rw [z1 l (by rw [ha]; exact hl), k0]; exact ⟨Int.le_refl _, Int.le_refl _⟩) (by omega)) (fun s2 h2 => ?_)
  obtain ⟨f2, n2⟩ := h2
  refine wt_H_some ⟨wt_fr.tr f1 f2 (fun i k h => h) (fun i h => h), fun l hl => ?_⟩
  rw [n2 l hl, z1 l (by rw [ha]; exact hl), k0]
  have e : wt_ct (fun k => (wt_ga s1 (20 + 1) (9 * w + k)).toInt) (l : Int) m = wt_ct (fun k => (wt_ga s 21 (9 * w + k)).toInt) (l : Int) m := wt_ct_congr m (fun k _ => by show (wt_ga s1 (20 + 1) (9 * w + k)).toInt = (wt_ga s (20 + 1) (9 * w + k)).toInt; rw [s21])
  rw [e, wt_nw_tt tt hw hm.symm]
  omega
/-- how often a word can be set: a rule -/
theorem wr_canW (n : Nat) (hn : 4294967297 < n) {α β : Type} {a a2 w W : Nat} {x1 : Int32} {s z : wt_St} {f : Int32 × wt_St → Option α} {g : Int32 × wt_St → Option β} {Q : α → β → Prop} (ha : wt_ln a = 26) (h21 : a ≠ 21) (h22 : a ≠ 22) (h5 : a ≠ 5) (h41 : a ≠ 41) (ha2 : wt_ln a2 = 312) (r : wt_RI z) (sk : wu_SK a2 s z) (tt : wt_tt 20 126 128 130 193 W s z) (hW : W ≤ 60) (hx : x1.toInt = (w : Int)) (hw : w < W) (k : ∀ q y, q.1 = y.1 → wt_fr (fun _ _ => False) (fun i => i = a) s q.2 → wt_fr (fun _ _ => False) (fun i => i = 287) z y.2 → wt_RI y.2 → wt_HH (f q) (g y) Q) : wt_HH ((wp_tg_spell n 20 a x1 s).bind fun q13 => (wp_sk_often n a a2 q13).bind f) ((wp_md_canWord n x1 z).bind g) Q := by
  have h2 : a ≠ a2 := fun e => by rw [e, ha2] at ha; exact absurd ha (by decide)
  unfold wp_md_canWord
  refine wt_HH_l (wh_spellW n hn ha h21 h22 tt hW hx hw) (fun s1 h1 => ?_)
  obtain ⟨f1, n1⟩ := h1
  simp only [Option.bind_assoc]
  refine wt_HH_r (wq_md_needsNoneP n hn z r).h (fun z1 h1 => ?_)
  obtain ⟨g1, r1, v1⟩ := h1
  refine wt_HH_r (wq_md_needsWordP n hn x1 z1 r1 (by omega) (by omega) (fun l hl => by have := v1 l hl; omega)).h (fun z2 h2 => ?_)
  obtain ⟨g2, r2, v2⟩ := h2
  have G : wt_fr (fun _ _ => False) (fun i => i = 287) z z2 := wt_fr.tr g1 g2 (fun i k h => h) (fun i h => h)
  have nd : ∀ l, l < 26 → (wt_ga z2 287 l).toInt = wt_nw z w (l : Int) := fun l hl => by
    rw [v2 l hl, v1 l hl, wt_tnN hx]
    have e : wt_nw z1 w (l : Int) = wt_nw z w (l : Int) := wt_nw_fr (by omega) (fun i hi j => g1.2 i (fun h => by rw [h] at hi; exact absurd hi (by unfold wt_PA; omega)) j)
    rw [e]
    omega
  have sk2 : wu_SK a2 s1 z2 := wu_SK_fr sk f1 G ⟨fun h => h5 h.symm, fun h => h2 h.symm, fun h => h41 h.symm⟩ ⟨by decide, by decide, by decide⟩
  obtain ⟨l, l1, l2⟩ := wu_nw_pos tt hw
  refine wt_HH_b (wr_often n hn ha ha2 sk2 r2 (fun l hl => wt_eqI (by rw [n1 l hl, nd l hl])) ⟨l, l1, by rw [nd l l1]; exact l2⟩) (fun q y h => ?_)
  exact k q y h.1 (by rw [h.2.1]; exact f1) (by rw [h.2.2]; exact G) (by rw [h.2.2]; exact r2)
/-- the price of a word, in step -/
theorem wr_priceW (n : Nat) (hn : 4294967297 < n) {w W : Nat} {x1 : Int32} {s z : wt_St} (tt : wt_tt 20 126 128 130 193 W s z) (hW : W ≤ 60) (pr : ∀ l, l < 26 → wt_ga s 9 l = wt_ga z 115 l) (hx : x1.toInt = (w : Int)) (hw : w < W) : wt_HH (wp_rw_priceOf n x1 s) (wp_md_priceOf n x1 z) (fun q y => q.1 = y.1 ∧ q.2 = s ∧ y.2 = z) := by
  have k0 : (0 : Int32).toInt = 0 := by decide
  obtain ⟨a2, -, -, b2, -, e2⟩ := tt w hw
  have ew := wt_tnN hx
  unfold wp_rw_priceOf wp_md_priceOf
  refine wt_HH_it (fun a b : Int32 × Int32 × wt_St => a.1 = b.1 ∧ a.2.1 = b.2.1 ∧ a.2.2 = s ∧ b.2.2 = z ∧ 0 ≤ b.2.1.toInt) (fun K K' a b I hK => ?_) n n _ _ ⟨rfl, rfl, rfl, rfl, by show 0 ≤ ((0 : Int32)).toInt; omega⟩
  obtain ⟨i1, i2, i3, i4, i5⟩ := I
  have et := wt_tnI i5
  unfold wp_rw_priceOf_B4 wp_md_priceOf_B4
  rw [i1, i2, i3, i4, ew]
  refine wt_HH_l (wh_look n hn (k := w) hx (by rw [show wt_ln 22 = 60 from by decide]; omega)) (fun q hq => ?_)
  subst hq
  dsimp only
  refine wt_HH_gr (fun _ => ?_)
  have a2' : wt_ga s 22 w = wt_ga z 126 w := a2
  rw [a2']
  refine wt_HH_il (fun c => ?_) (fun c => ?_)
  · rw [if_pos c]
    exact wt_HH_some ⟨rfl, rfl, rfl⟩
  · rw [if_neg c]
    have c' := wt_ncle c
    have b2' : (wt_ga z 126 w).toInt ≤ 9 := by rw [← a2']; exact b2.2
    have ei := wt_i1 (c := b.2.1) (by omega)
    obtain ⟨l1, l2, l3⟩ := e2 (Int32.toNatClampNeg b.2.1) (by show ((Int32.toNatClampNeg b.2.1 : Nat) : Int) < (wt_ga s 22 w).toInt; rw [a2']; omega)
    have l1' : wt_ga s 21 (9 * w + Int32.toNatClampNeg b.2.1) = wt_ga z (193 + w) (Int32.toNatClampNeg b.2.1) := l1
    have l2' : 0 ≤ (wt_ga z (193 + w) (Int32.toNatClampNeg b.2.1)).toInt := by rw [← l1']; exact l2
    have l3' : (wt_ga z (193 + w) (Int32.toNatClampNeg b.2.1)).toInt ≤ 25 := by rw [← l1']; exact l3
    have el := wt_tnI l2'
    refine wt_HH_l (wh_letterAt n hn (t0 := 20) (by decide) hx (by omega) (k := Int32.toNatClampNeg b.2.1) (by omega) (by omega)) (fun q hq => ?_)
    subst hq
    dsimp only
    refine wt_HH_l (wh_look n hn (k := Int32.toNatClampNeg (wt_ga z (193 + w) (Int32.toNatClampNeg b.2.1))) (by show (wt_ga s 21 (9 * w + Int32.toNatClampNeg b.2.1)).toInt = _; rw [l1']; omega) (by rw [show wt_ln 9 = 26 from by decide]; omega)) (fun q hq => ?_)
    subst hq
    refine wt_HH_gr (fun _ => wt_HH_gr (fun _ => wt_HH_gr (fun _ => ?_)))
    refine hK _ _ ⟨?_, rfl, rfl, rfl, by show 0 ≤ (b.2.1 + (1 : Int32)).toInt; omega⟩
    show b.1 + wt_ga s 9 (Int32.toNatClampNeg (wt_ga z (193 + w) (Int32.toNatClampNeg b.2.1))) = b.1 + wt_ga z 115 (Int32.toNatClampNeg (wt_ga z (193 + w) (Int32.toNatClampNeg b.2.1)))
    rw [pr _ (by omega)]
theorem wr_word (n : Nat) (hn : 4294967297 < n) {x1 x2 : Int32} {s z : wt_St} (v : wt_IV z) (rl : wu_RL s z) : wt_HH (wp_ap_word n x1 x2 s) (wp_md_word n x1 x2 z) (fun q y => (q.1 = 2 ∧ wt_gf y.2 108 0 = 1) ∨ (q.1 = 1 ∧ wt_gf y.2 108 0 = 2) ∨ (q.1 = 0 ∧ wt_gf y.2 108 0 = 0 ∧ q.2.1 = y.1)) := by
  have k0 : (0 : Int32).toInt = 0 := by decide
  have k4 : (4 : Int32).toInt = 4 := by decide
  unfold wp_ap_word wp_md_word
  obtain ⟨z0, ε0⟩ : ∃ o : wt_St, o = wt_sf z 108 0 (0 : Int32) := ⟨_, rfl⟩
  rw [← ε0]
  have g0 := wt_fr_sf ε0
  have t0 : wt_gf z0 108 0 = 0 := wt_v_sf ε0
  have r0 : wt_RI z0 := wt_RI_fno v.1 ε0 (Or.inr (by decide +kernel))
  obtain ⟨-, -, to, lc, tx, sc, -⟩ := wu_RL_z0 rl v.1 g0
  have sk := wu_SK_of lc sc
  have hz : 0 ≤ (wt_gf z0 108 28).toInt ∧ (wt_gf z0 108 28).toInt ≤ 60 := wt_Rf6 r0
  obtain ⟨W, G, ⟨w1, w2, w3⟩, -, tt, -⟩ := to
  refine wr_gW n (wp_ap_word_B16 n x1 x2) (wp_md_word_B19 n x1 x2) (w1.trans w2.symm) hz (wr_mb1 n t0 (by decide) (Or.inl ⟨rfl, wt_v_sf rfl⟩)) (fun hx0 hx1 => wr_mb0 n t0 ?_)
  dsimp only
  have hx := (wt_tnI hx0).symm
  obtain ⟨w, hw⟩ : ∃ w : Nat, w = Int32.toNatClampNeg x1 := ⟨_, rfl⟩
  rw [← hw] at hx
  have hwW : w < W := by omega
  obtain ⟨a2, a3, a4, -⟩ := tt w hwW
  refine wt_HH_r (wh_in n) (fun y2 h2 => ?_)
  obtain ⟨e2, b2⟩ := h2
  rw [e2]
  rcases b2 with ⟨d1, d2⟩ | ⟨d1, d2, d3⟩
  · have no : ∀ k : Int32, 0 ≤ k.toInt → k.toInt ≤ 4 → ¬ x2 = k := fun k h0 h4 h => by rw [h] at d2; omega
    rw [if_pos (show y2.1 = 0 from d1), if_neg (no 0 (by decide) (by decide)), if_neg (no 1 (by decide) (by decide)), if_neg (no 2 (by decide) (by decide)), if_neg (no 3 (by decide) (by decide)), if_neg (no 4 (by decide) (by decide))]
    exact wt_HH_rr (P' := fun y => wt_gf y.2 108 0 = 2) (wh_b1 n t0 (by decide) (wt_v_sf rfl)) (fun y hy => wt_H_some (Or.inr (Or.inl ⟨rfl, hy⟩)))
  · rw [if_neg (show ¬ y2.1 = 0 by rw [d1]; decide)]
    refine wr_b0 n t0 ?_
    dsimp only
    rw [← hw]
    have A : ∀ (w : Int32) (y : Int32 × wt_St), w = y.1 → y.2 = z0 → ((0 : Nat) = 2 ∧ wt_gf y.2 108 0 = 1) ∨ ((0 : Nat) = 1 ∧ wt_gf y.2 108 0 = 2) ∨ ((0 : Nat) = 0 ∧ wt_gf y.2 108 0 = 0 ∧ w = y.1) := fun w y h1 h2 => Or.inr (Or.inr ⟨rfl, by rw [h2]; exact t0, h1⟩)
    refine wt_HH_il (fun c => ?_) (fun c => ?_)
    · rw [if_pos c]
      refine wt_HH_l (wh_look n hn (k := w) hx (by rw [show wt_ln 22 = 60 from by decide]; omega)) (fun q hq => ?_)
      subst hq
      exact wt_HH_gr (fun _ => wt_HH_some (A _ _ a2 rfl))
    rw [if_neg c]
    refine wt_HH_il (fun c1 => ?_) (fun c1 => ?_)
    · rw [if_pos c1]
      refine wt_HH_l (wh_look n hn (k := w) hx (by rw [show wt_ln 23 = 60 from by decide]; omega)) (fun q hq => ?_)
      subst hq
      exact wt_HH_gr (fun _ => wt_HH_some (A _ _ a3 rfl))
    rw [if_neg c1]
    refine wt_HH_il (fun c2 => ?_) (fun c2 => ?_)
    · rw [if_pos c2]
      refine wt_HH_l (wh_look n hn (k := w) hx (by rw [show wt_ln 24 = 60 from by decide]; omega)) (fun q hq => ?_)
      subst hq
      exact wt_HH_gr (fun _ => wt_HH_some (A _ _ a4 rfl))
    rw [if_neg c2]
    refine wt_HH_il (fun c3 => ?_) (fun c3 => ?_)
    · rw [if_pos c3]
      exact wt_HH_b (wr_priceW n hn tt w3 lc.2.2.1 hx hwW) (fun a b h => wt_HH_some (A _ _ h.1 h.2.2))
    rw [if_neg c3]
    refine wt_HH_il (fun c4 => ?_) (fun c4 => ?_)
    · exact wr_canW n hn (by decide) (by decide) (by decide) (by decide) (by decide) (by decide) r0 sk tt w3 hx hwW (fun q y e _ fy _ => wt_HH_some (Or.inr (Or.inr ⟨rfl, by
        show wt_gf y.2 108 0 = 0
        rw [fy.1 108 0 (fun h => h)]
        exact t0, e⟩)))
    · have n0 : ∀ k : Int32, ¬ x2 = k → x2.toInt ≠ k.toInt := fun k h e => h (wt_eqI e)
      have m0 := n0 0 c
      have m1 := n0 1 c1
      have m2 := n0 2 c2
      have m3 := n0 3 c3
      have m4 := n0 4 c4
      have k1 : (1 : Int32).toInt = 1 := by decide
      have k2 : (2 : Int32).toInt = 2 := by decide
      have k3 : (3 : Int32).toInt = 3 := by decide
      omega
