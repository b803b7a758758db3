theorem wt_HH_ofA {α β : Type} {p : Option α} {p' : Option β} {P : α → Prop} {P' : β → Prop} (h : wt_H p P) (h' : wt_H p' P') : wt_HH p p' (fun a b => P a ∧ P' b) := fun a b e e' => ⟨h a e, h' b e'⟩
set_option maxRecDepth 100000 in
set_option maxHeartbeats 4000000 in
/-- the reference takes a text over -/
theorem wh_textEnd (n : Nat) {z : wt_St} {T m : Nat} {x : Int32} (h0 : wt_gf z 108 5 = 0) (hx : x.toInt = (m : Int)) (hm : m ≤ 12) (hT : (wt_gf z 108 39).toInt = (T : Int)) (hT8 : T < 8) : wt_H (wp_md_text_B195 n x z) (fun q => q.1 = wt_gf z 108 39 ∧ wt_fr (fun i k => i = 108 ∧ (k = 3 ∨ k = 39)) (fun i => i = 253 ∨ i = 255 + T) z q.2 ∧ wt_gf q.2 108 3 = wt_gf z 108 6 ∧ (wt_gf q.2 108 39).toInt = ((T + 1 : Nat) : Int) ∧ wt_ga q.2 253 T = x ∧ (∀ t, t ≠ T → wt_ga q.2 253 t = wt_ga z 253 t) ∧ ∀ j, j < m → wt_ga q.2 (255 + T) j = wt_ga z 274 j) := by
  have k0 : (0 : Int32).toInt = 0 := by decide
  have k1 : (1 : Int32).toInt = 1 := by decide
  have et : Int32.toNatClampNeg (wt_gf z 108 39) = T := wt_tnN hT
  unfold wp_md_text_B195
  obtain ⟨s1, ε1⟩ : ∃ o : wt_St, o = wt_sf z 108 3 (wt_gf z 108 6) := ⟨_, rfl⟩
  rw [← ε1]
  have f1 := wt_fr_sf ε1
  have e5 : wt_gf s1 108 5 = wt_gf z 108 5 := f1.1 108 5 (by decide)
  have e39 : wt_gf s1 108 39 = wt_gf z 108 39 := f1.1 108 39 (by decide)
  rw [e5, if_pos h0, e39, et]
  refine wt_H_gd (fun _ => ?_)
  obtain ⟨s2, ε2⟩ : ∃ o : wt_St, o = wt_sa s1 253 T x := ⟨_, rfl⟩
  rw [← ε2]
  have f2 := wt_fr_sa ε2
  refine wt_H_it (fun t : Int32 × wt_St => 0 ≤ t.1.toInt ∧ wt_fr (fun _ _ => False) (fun i => i = 255 + T) s2 t.2 ∧ ∀ j : Nat, (j : Int) < t.1.toInt → wt_ga t.2 (255 + T) j = wt_ga z 274 j) (fun K t I hK => ?_) n _ ⟨by show 0 ≤ ((0 : Int32)).toInt; omega, wt_fr.rf, fun k hk => absurd (show (k : Int) < ((0 : Int32)).toInt from hk) (by omega)⟩
  obtain ⟨i0, ft, i1⟩ := I
  have ett := wt_tnI i0
  have g39 : wt_gf t.2 108 39 = wt_gf z 108 39 := (ft.1 108 39 (fun h => h)).trans ((f2.1 108 39 (fun h => h)).trans e39)
  unfold wp_md_text_B230
  rw [g39, et]
  refine wt_H_if (fun c => ?_) (fun c => ?_)
  · have c' := wt_cle c
    obtain ⟨s3, ε3⟩ : ∃ o : wt_St, o = wt_sf t.2 108 39 ((wt_gf z 108 39) + (1 : Int32)) := ⟨_, rfl⟩
    rw [← ε3]
    have f3 := wt_fr_sf ε3
    have e1 := wt_i1 (c := wt_gf z 108 39) (by omega)
    have v39 := wt_v_sf ε3
    have es := wt_subE (x := wt_gf s3 108 39) (y := (1 : Int32)) (by rw [v39]; omega) (by rw [v39]; omega)
    refine wt_H_some ⟨wt_eqI (by (try dsimp only); rw [es, v39]; omega), ((((wt_fr.rf.sf ε1 (by first | decide | ((try dsimp only); omega))).sa ε2 (by first | decide | ((try dsimp only); omega))).tr ft (fun i k h => h.elim) (fun i h => Or.inr h)).sf ε3 (by first | decide | ((try dsimp only); omega))), ?_, ?_, ?_, fun t' ht' => ?_, fun j hj => ?_⟩
    · rw [f3.1 108 3 (by decide), ft.1 108 3 (fun h => h), f2.1 108 3 (fun h => h)]; exact wt_v_sf ε1
    · rw [v39]; omega
    · rw [f3.2 253 (fun h => h), ft.2 253 (by (try dsimp only); omega)]; exact wt_v_sa ε2
    · rw [f3.2 253 (fun h => h), ft.2 253 (by (try dsimp only); omega), wt_w_sa ε2 t' ht']; exact f1.2 253 (fun h => h) t'
    · rw [f3.2 (255 + T) (fun h => h)]; exact i1 j (by omega)
  · have c' := wt_ncle c
    have ei := wt_i1 (c := t.1) (by omega)
    refine wt_H_gd (fun _ => ?_)
    refine wt_H_gd (fun _ => ?_)
    refine wt_H_gd (fun _ => ?_)
    obtain ⟨s3, ε3⟩ : ∃ o : wt_St, o = wt_sa t.2 (255 + T) (Int32.toNatClampNeg t.1) (wt_ga t.2 274 (Int32.toNatClampNeg t.1)) := ⟨_, rfl⟩
    rw [← ε3]
    refine hK _ ⟨by show 0 ≤ (t.1 + (1 : Int32)).toInt; omega, ft.sa ε3 rfl, fun j hj => ?_⟩
    have hj' : (j : Int) < (t.1 + (1 : Int32)).toInt := hj
    show wt_ga s3 _ j = _
    by_cases hc : j = Int32.toNatClampNeg t.1
    · rw [hc, wt_v_sa ε3, ft.2 274 (by (try dsimp only); omega), f2.2 274 (by decide)]
      exact f1.2 274 (fun h => h) _
    · rw [wt_w_sa ε3 j hc]; exact i1 j (by omega)
theorem wt_sp_so {t a b c L W m j : Nat} {β : Nat → Int32} {s z : wt_St} {x : Int32} (tt : wt_tt t a b c L W s z) (hx : x.toInt = (m : Int)) (SP : ∀ i, i < m → wt_ga s 3 i = β (j + i) - (97 : Int32)) (w : Nat) (hw : w < W) : wt_sp s t 3 x m w ↔ wt_so β z a L x m j w := by
  obtain ⟨c1, -, -, -, -, c6⟩ := tt w hw
  constructor
  · rintro ⟨x1, x2⟩
    refine ⟨c1.symm.trans x1, fun i hi => ?_⟩
    rw [← (c6 i (by rw [x1, hx]; omega)).1, x2 i hi]
    exact SP i hi
  · rintro ⟨x1, x2⟩
    have x1' : wt_ga s (t + 2) w = x := c1.trans x1
    refine ⟨x1', fun i hi => ?_⟩
    rw [SP i hi, ← x2 i hi]
    exact (c6 i (by rw [x1', hx]; omega)).1
/-- a word is looked for in the tongue that stands, on both sides -/
theorem wr_findW (n : Nat) (hn : 4294967297 < n) {β : Nat → Int32} {e j j2 : Nat} {s z : wt_St} {x : Int32} (to : wt_TO s z) (rv : wt_rv β e j z) (hx : x.toInt = (j2 : Int) - j) (hj : j ≤ j2) (he : j2 ≤ e) (sm : ∀ i, j ≤ i → i < j2 → 97 ≤ (β i).toInt ∧ (β i).toInt ≤ 122) (sp : ∀ i, i < 9 → j + i < j2 → (wt_ga s 3 i).toInt = (β (j + i)).toInt - 97) : wt_HH (wp_tg_find n 20 3 x s) (wp_md_wordOf_192 n 126 x (wt_gf z 108 28) z) (fun q y => q.2 = s ∧ y.2 = z ∧ q.1 = y.1 ∧ (q.1 = -1 ∨ (0 ≤ q.1.toInt ∧ q.1.toInt < (wt_gf z 108 28).toInt))) := by
  obtain ⟨W, G, ⟨a1, a2, a3⟩, -, tt, -⟩ := to
  have k97 : (97 : Int32).toInt = 97 := by decide
  have hb := rv.2.2.2
  by_cases h9 : j2 - j ≤ 9
  · refine wt_HH_of (wh_find n hn (N := W) (m := j2 - j) (by decide) (by decide) wt_ln3 a1 a3 (by omega) h9) (wh_wordOf_192 n (N := W) (m := j2 - j) rv (by omega) h9 (by omega) a2 a3) (fun q y hq hy => ?_)
    have SP : ∀ i, i < j2 - j → wt_ga s 3 i = β (j + i) - (97 : Int32) := fun i hi => by
      have hb := sm (j + i) (by omega) (by omega)
      have es := wt_subE (x := β (j + i)) (y := (97 : Int32)) (by omega) (by omega)
      have := sp i (by omega) (by omega)
      exact wt_eqI (by omega)
    have e := wt_fst_u hq.2 hy.2 (fun w hw => wt_sp_so tt (by omega) SP w hw)
    refine ⟨hq.1, hy.1, e, ?_⟩
    rcases hq.2 with ⟨w, w1, w2, -⟩ | ⟨w1, -⟩
    · exact Or.inr (by omega)
    · exact Or.inl w1
  · have hne : ∀ w, w < W → wt_ga s 22 w ≠ x := fun w hw h => by
      have t4 : 1 ≤ (wt_ga s 22 w).toInt ∧ (wt_ga s 22 w).toInt ≤ 9 := (tt w hw).2.2.2.1
      rw [h] at t4
      omega
    refine wt_HH_of (wh_find9 n hn (N := W) (by decide) a1 a3 hne) (wh_wordOf9 n (N := W) a2 a3 (fun w hw h => hne w hw ?_)) (fun q y hq hy => ?_)
    · have t1 : wt_ga s 22 w = wt_ga z 126 w := (tt w hw).1
      rw [t1]; exact h
    · rw [hq, hy]
      exact ⟨rfl, rfl, rfl, Or.inl rfl⟩
theorem wr_wordAny (n : Nat) {β : Nat → Int32} {e j m : Nat} {s z : wt_St} {x1 x4 : Int32} (rv : wt_rv β e j z) (hx : x1.toInt = (m : Int)) (hm : m ≤ 9) (he : j + m ≤ e) (to : wt_TO s z) (e4 : x4 = wt_gf z 108 28) : wt_H (wp_md_wordOf_192 n 126 x1 x4 z) (fun q => q.2 = z) := by
  obtain ⟨W, G, ⟨a1, a2, a3⟩, -⟩ := to
  subst e4
  exact (wh_wordOf_192 n (N := W) rv hx hm he a2 a3).imp (fun q hq => hq.1)
/-- what reading a text leaves -/
def wu_xq (z0 : wt_St) (T : Nat) (q y : Int32 × wt_St) : Prop := wt_gf q.2 1 7 = wt_gf y.2 108 3 ∧ wt_gf y.2 108 0 = wt_gf z0 108 0 ∧ wu_TX q.2 y.2 ∧ ((q.1 = 0 ∧ ∃ f : Nat, 0 < f ∧ f ≤ 3 ∧ (wt_gf q.2 1 6).toInt = (f : Int) ∧ y.1.toInt = (f : Int) - 10) ∨ (q.1 = 1 ∧ (wt_gf q.2 34 4).toInt = ((T + 1 : Nat) : Int) ∧ y.1.toInt = (T : Int)))
/-- the old texts stand as they are -/
theorem wu_old {s0 z0 q y : wt_St} {T : Nat} {Fc Fm : Nat → Nat → Prop} {Ac Am : Nat → Prop} (rz0 : wt_RI z0) (tx0 : wu_TX s0 z0) (hT : (wt_gf z0 108 39).toInt = (T : Int)) (fq : wt_fr Fc Ac s0 q) (fy : wt_fr Fm Am z0 y) (c1 : ¬ Fc 34 4) (c2 : ∀ i, 35 < i → i < 38 → ¬ Ac i) (c3 : ∀ j, j < 12 * T → wt_ga q 35 j = wt_ga s0 35 j) (c4 : ∀ k, 8 ≤ k → ¬ Fm 108 k) (c5 : ∀ i, i ≠ 274 → ¬ Am i) : wu_TX q y := by
  have g39 : 0 ≤ (wt_gf z0 108 39).toInt ∧ (wt_gf z0 108 39).toInt ≤ 8 := wt_R_gf rz0 7 rfl
  refine ⟨by rw [fq.1 34 4 c1, fy.1 108 39 (c4 _ (by omega))]; exact tx0.1, fun t ht => ?_⟩
  rw [fy.1 108 39 (c4 _ (by omega))] at ht
  exact wu_X1_eq (tx0.2 t ht) rz0 (by omega) (fq.2 36 (c2 _ (by omega) (by omega)) t) (fun i hi => c3 _ (by omega)) (fun l _ => fq.2 37 (c2 _ (by omega) (by omega)) _) (fy.1 108 28 (c4 _ (by omega))) (fy.2 253 (c5 _ (by decide)) t) (fy.2 (255 + t) (c5 _ (by omega))) (fun i hi => fy.2 i (c5 _ (by omega)))
set_option maxRecDepth 100000 in
set_option maxHeartbeats 8000000 in
theorem wr_textLoop (n m m' : Nat) (hn : 4294967297 < n) {β : Nat → Int32} {e k j T : Nat} {s0 z0 s z : wt_St} (rz0 : wt_RI z0) (tx0 : wu_TX s0 z0) (tv : wt_tv β e k s) (r : wt_run β e wt_bl k j) (rv : wt_rv β e j z) (h0 : wt_gf z 108 5 = 0) (xr : wt_xr T s0 z0 0 s z) : wt_HH (wt_it (wp_tx_fill_B2 n 20) m ((0 : Int32), s)) (wt_it (wp_md_text_B62 n) m' ((0 : Int32), z)) (wu_xq z0 T) := by
  have k0 : (0 : Int32).toInt = 0 := by decide
  have k1 : (1 : Int32).toInt = 1 := by decide
  have k10 : (10 : Int32).toInt = 10 := by decide
  have k12 : (12 : Int32).toInt = 12 := by decide
  have hT0 : (wt_gf z0 108 39).toInt = (T : Int) := by rw [← xr.2.2.2.2.2.2.2.2.1 108 39 (by decide)]; exact xr.2.1
  refine wt_HH_it (fun (t : Int32 × wt_St) (y : Int32 × wt_St) => ∃ i : Nat, t.1.toInt = (i : Int) ∧ y.1 = t.1 ∧ i ≤ 12 ∧ ∃ k j, wt_tv β e k t.2 ∧ wt_run β e wt_bl k j ∧ wt_rv β e j y.2 ∧ wt_gf y.2 108 5 = 0 ∧ wt_xr T s0 z0 i t.2 y.2) (fun K K' t y I hK => ?_) m m' _ _ ⟨0, by show ((0 : Int32)).toInt = _; omega, rfl, by omega, k, j, tv, r, rv, h0, xr⟩
  obtain ⟨i, i1, i2, i3, k, j, tv, r, rv, h0, xr⟩ := I
  -- a fault, on both sides
  have WR : ∀ (f : Nat) (a x3 x4 : Int32) (q z1 : wt_St) (K2 : Int32 × wt_St → Option (Int32 × wt_St)), a.toInt = (f : Int) → 0 < f → f ≤ 3 → wt_flt q f j → wt_rv β e j z1 → wt_gf z1 108 5 = 0 → wt_xr T s0 z0 i t.2 z1 → wt_fr (fun i k => i = 1 ∧ 4 ≤ k) (fun i => i = 3) t.2 q → wt_HH (some ((0 : Int32), q)) ((wp_md_wrong n a (wt_gf z1 108 4) z1).bind fun q4 => wp_md_text_B157 n t.1 x3 x4 K2 q4) (wu_xq z0 T) := by
    intro f a x3 x4 q z1 K2 ha hf hf3 hq rv1 hz xr1 hfq
    refine wt_HH_r (wh_wrong n hz ha rv1.2.2.1) (fun z2 h2 => ?_)
    obtain ⟨hz2, fz2⟩ := h2
    unfold wp_md_text_B157
    rw [if_neg (wt_frt_nz hz2 hf)]
    unfold wp_md_text_B195
    obtain ⟨z3, ε3⟩ : ∃ o : wt_St, o = wt_sf z2 108 3 (wt_gf z2 108 6) := ⟨_, rfl⟩
    rw [← ε3]
    have g3 := wt_fr_sf ε3
    have e53 : wt_gf z3 108 5 = wt_gf z2 108 5 := g3.1 108 5 (by decide)
    rw [e53, if_neg (wt_frt_nz hz2 hf)]
    have h25 := hz2.1
    have es := wt_subE (x := wt_gf z2 108 5) (y := (10 : Int32)) (by omega) (by omega)
    obtain ⟨-, -, -, -, -, -, fs, o, gz⟩ := xr1
    have GZ : wt_fr (fun i k => i = 108 ∧ 3 ≤ k ∧ k < 8) (fun i => i = 274) z0 z3 := (wt_fr.tr gz fz2 (fun i k h => by (try dsimp only at h); omega) (fun i h => h.elim)).sf ε3 (by first | decide | ((try dsimp only); omega))
    refine wt_HH_some ⟨?_, GZ.1 108 0 (by decide), wu_old rz0 tx0 hT0 (wt_fr.tr fs hfq (fun i k h => by (try dsimp only at h); omega) (fun i h => Or.inl h)) GZ (by decide) (fun i p q => by (try dsimp only); omega) (fun j hj => by rw [hfq.2 35 (by decide)]; exact o j hj) (fun k hk => by (try dsimp only); omega) (fun i h => h), Or.inl ⟨rfl, f, hf, hf3, hq.1, ?_⟩⟩
    · show wt_gf q 1 7 = wt_gf z3 108 3
      rw [wt_v_sf ε3]
      exact wt_eqI (hq.2.trans hz2.2.symm)
    · show ((wt_gf z2 108 5) - (10 : Int32)).toInt = _
      omega
  have t2 := rv.2.1
  have t3 := rv.2.2.1
  have hje := rv.2.2.2
  unfold wp_tx_fill_B2 wp_md_text_B62
  rw [if_neg (fun c => by have := wt_clt c; omega), if_pos h0, i2]
  refine wt_HH_l (wh_over n hn tv) (fun q2 h2 => ?_)
  obtain ⟨j', r', tv', st', fr', hc⟩ := h2
  have ej : j' = j := wt_run_u r' r
  rw [ej] at tv' st' hc
  have xr2 : wt_xr T s0 z0 i q2.2 y.2 := wt_xr_fr xr fr' wt_fr.rf (F' := fun _ _ => False) (A' := fun _ => False) (fun i k h => by (try dsimp only at h); omega) (fun i h => h.elim) (fun i k h => h.elim) (fun i h => h)
  have W2 : wt_fr (fun i k => i = 1 ∧ 4 ≤ k) (fun i => i = 3) t.2 q2.2 := wt_frw fr' (fun i k h => by (try dsimp only at h); omega) (fun i h => h.elim)
  rcases hc with ⟨c1, c2⟩ | ⟨c1, c2⟩
  · rw [if_pos c1, if_pos (Int32.lt_iff_toInt_lt.mpr (by omega))]
    unfold wp_md_text_B84
    refine wt_HH_l (wh_takeWord n hn tv') (fun q4 h4 => ?_)
    obtain ⟨jj, j2, s1, s2, tv4, st4, hc4⟩ := h4
    have ejj : jj = j := wt_run_u s1 (wt_run_self r)
    rw [ejj] at s2 st4 hc4
    refine wt_HH_r (wh_lettersHere n rv) (fun y15 h15 => ?_)
    obtain ⟨u, u2, p1, p2, rv15, e15, f15⟩ := h15
    have eu : u = j := wt_run_u p1 (wt_run_self r)
    rw [eu] at p2 rv15 e15
    have eu2 : u2 = j2 := wt_run_u p2 s2
    rw [eu2] at e15
    have h015 : wt_gf y15.2 108 5 = 0 := (f15.1 108 5 (by (try dsimp only); omega)).trans h0
    have xr15 : wt_xr T s0 z0 i q2.2 y15.2 := wt_xr_fr xr2 wt_fr.rf f15 (F := fun _ _ => False) (A := fun _ => False) (fun i k h => h.elim) (fun i h => h.elim) (fun i k h => by (try dsimp only at h); omega) (fun i h => h)
    have xrt15 : wt_xr T s0 z0 i t.2 y15.2 := wt_xr_fr xr wt_fr.rf f15 (F := fun _ _ => False) (A := fun _ => False) (fun i k h => h.elim) (fun i h => h.elim) (fun i k h => by (try dsimp only at h); omega) (fun i h => h)
    have tb4 := tv4.2.2.2
    have t34 := tv4.2.2.1
    rcases hc4 with ⟨e2, q0, fl, ff4⟩ | ⟨lt, q0, ff4, sp⟩
    · rw [if_pos q0]
      refine wt_HH_r (wr_wordAny n (x4 := wt_gf y15.2 108 28) (β := β) rv15 (x1 := y15.1) (m := 0) (by omega) (by omega) (by omega) xr15.2.2.2.1 rfl) (fun y16 h16 => ?_)
      rw [h16, if_pos (wt_eqI (a := y15.1) (b := (0 : Int32)) (by omega))]
      exact WR 1 _ _ _ _ _ _ (by decide) (by omega) (by omega) fl rv15 h015 xrt15 (wt_fr.tr W2 ff4 (fun i k h => h) (fun i h => h))
    · rw [if_neg (by rw [q0]; decide)]
      unfold wp_tp_wordLength
      refine wt_HH_l (wt_H_some (Q := fun q => q = ((wt_gf q4.2 1 4) - (wt_gf q4.2 1 5), q4.2)) rfl) (fun q6 h6 => ?_)
      subst h6
      dsimp only
      have el := wt_subE (x := wt_gf q4.2 1 4) (y := wt_gf q4.2 1 5) (by omega) (by omega)
      have exy : (wt_gf q4.2 1 4) - (wt_gf q4.2 1 5) = y15.1 := wt_eqI (by omega)
      rw [exy]
      have xr4 : wt_xr T s0 z0 i q4.2 y15.2 := wt_xr_fr xr15 ff4 wt_fr.rf (F' := fun _ _ => False) (A' := fun _ => False) (fun i k h => by (try dsimp only at h); omega) (fun i h => h) (fun i k h => h.elim) (fun i h => h)
      refine wt_HH_b (wr_findW n hn (j := j) (j2 := j2) xr4.2.2.2.1 rv15 e15 (by omega) (by omega) (fun i h1 h2 => wt_sm_b s2 h1 h2) sp) (fun q7 y16 h716 => ?_)
      obtain ⟨g1, g2, g3, g4⟩ := h716
      rw [g1, g2, g3, if_neg (show ¬ y15.1 = 0 from fun h => by have := wt_ceq h; omega)]
      have WQ : ∀ q : wt_St, wt_fr (fun i k => i = 1 ∧ (k = 6 ∨ k = 7)) (fun _ => False) q4.2 q → wt_fr (fun i k => i = 1 ∧ 4 ≤ k) (fun i => i = 3) t.2 q := fun q hq => wt_fr.tr (wt_fr.tr W2 ff4 (fun i k h => by (try dsimp only at h); omega) (fun i h => h)) hq (fun i k h => by (try dsimp only at h); omega) (fun i h => h.elim)
      by_cases hm1 : y16.1 = (-1 : Int32)
      · rw [if_pos hm1, if_pos hm1]
        refine wt_HH_l (wh_fail n (x := (2 : Int32)) (f := 2) (by decide) st4) (fun q12 h12 => ?_)
        rw [h12.1]
        exact WR 2 _ _ _ _ _ _ (by decide) (by omega) (by omega) h12.2.1 rv15 h015 xrt15 (WQ _ h12.2.2)
      · rw [if_neg hm1, if_neg hm1]
        rw [g3] at g4
        have g4' : 0 ≤ y16.1.toInt ∧ y16.1.toInt < (wt_gf y15.2 108 28).toInt := g4.resolve_left hm1
        by_cases h12 : i = 12
        · rw [if_neg (fun h => by have := wt_clt h; omega), if_pos (wt_eqI (by omega))]
          refine wt_HH_l (wh_fail n (x := (3 : Int32)) (f := 3) (by decide) st4) (fun q12 hq12 => ?_)
          rw [hq12.1]
          have R := WR 3 (3 : Int32) y15.1 y16.1 q12.2 y15.2 K' (by decide) (by omega) (by omega) hq12.2.1 rv15 h015 xrt15 (WQ _ hq12.2.2)
          exact R
        · rw [if_pos (Int32.lt_iff_toInt_lt.mpr (by omega)), if_neg (fun h => by have := wt_ceq h; omega)]
          obtain ⟨A1, A2, A3, A4, A5, A6, A7, A8, A9⟩ := xr4
          have em := wt_mulR (x := wt_gf q4.2 34 4) k12 (by omega) (by omega)
          have ea := wt_addE (x := (wt_gf q4.2 34 4) * (12 : Int32)) (y := t.1) (by omega) (by omega)
          refine wt_HH_l (wh_put n (k := 12 * T + i) (by omega) (by rw [show wt_ln 35 = 96 from by decide]; omega)) (fun q10 ε => ?_)
          have f10 := wt_fr_sa ε
          unfold wp_md_text_B157
          rw [if_pos h015]
          refine wt_HH_gr (fun _ => ?_)
          have eti : Int32.toNatClampNeg t.1 = i := wt_tnN i1
          rw [eti]
          obtain ⟨z1, δ1⟩ : ∃ o : wt_St, o = wt_sa y15.2 274 i y16.1 := ⟨_, rfl⟩
          rw [← δ1]
          have d1 := wt_fr_sa δ1
          have e4 : wt_gf z1 108 4 = wt_gf y15.2 108 4 := d1.1 108 4 (fun h => h)
          have e154 := rv15.2.2.1
          rw [e4]
          have ea2 := wt_addE (x := wt_gf y15.2 108 4) (y := y15.1) (by omega) (by omega)
          obtain ⟨z2, δ2⟩ : ∃ o : wt_St, o = wt_sf z1 108 4 ((wt_gf y15.2 108 4) + y15.1) := ⟨_, rfl⟩
          rw [← δ2]
          have rv2 : wt_rv β e j2 z2 := wt_rv_adv (wt_rv_fr rv15 d1 (by decide) (fun h => h) (fun h => h)) δ2 (by omega) (by omega)
          refine wt_HH_r (wh_blanks n rv2) (fun w hw => ?_)
          obtain ⟨j3, r3, rv3, fr3⟩ := hw
          have FZ : wt_fr (fun i k => i = 108 ∧ k = 4) (fun i => i = 274) y15.2 w := ((wt_fr.rf.sa δ1 (by first | decide | ((try dsimp only); omega))).sf δ2 (by first | decide | ((try dsimp only); omega))).tr fr3 (fun i k h => h) (fun i h => h.elim)
          have ei := wt_i1 (c := t.1) (by omega)
          have w274 : ∀ j', wt_ga w 274 j' = wt_ga z1 274 j' := fun j' => by rw [fr3.2 274 (fun h => h)]; exact (wt_fr_sf δ2).2 274 (fun h => h) j'
          refine hK _ _ ⟨i + 1, by show (t.1 + (1 : Int32)).toInt = _; omega, rfl, by omega, j2, j3, wt_tv_fr tv4 f10 (by decide) (fun h => h) (fun h => h), r3, rv3, (FZ.1 108 5 (by decide)).trans h015, ⟨?_, ?_, A3, wt_TO_fr A4 f10 FZ ⟨fun h => h, fun h => h⟩ (fun i p q => by (try dsimp only); omega) ⟨by decide, by decide⟩ (fun i h => by (try dsimp only); omega), fun j' hj' => ?_, ?_, wt_fr.tr A7 f10 (fun i k h => h.elim) (fun i h => Or.inr h), fun j' hj' => ?_, wt_fr.tr A9 FZ (fun i k h => by (try dsimp only at h); omega) (fun i h => h)⟩⟩
          · show (wt_gf q10 34 4).toInt = _
            rw [f10.1 34 4 (fun h => h)]; exact A1
          · show (wt_gf w 108 39).toInt = _
            rw [FZ.1 108 39 (by decide)]; exact A2
          · show wt_ga q10 35 (12 * T + j') = wt_ga w 274 j' ∧ 0 ≤ (wt_ga q10 35 (12 * T + j')).toInt ∧ (wt_ga q10 35 (12 * T + j')).toInt < (wt_gf w 108 28).toInt
            rw [FZ.1 108 28 (by decide), w274]
            by_cases hc' : j' = i
            · rw [hc', wt_v_sa ε, wt_v_sa δ1]
              exact ⟨rfl, g4'⟩
            · rw [wt_w_sa ε _ (by omega), wt_w_sa δ1 _ hc']
              exact A5 j' (by omega)
          · show wt_gf q10 1 7 = wt_gf w 108 6
            rw [f10.1 1 7 (fun h => h), FZ.1 108 6 (by decide)]; exact A6
          · show wt_ga q10 35 j' = wt_ga s0 35 j'
            rw [wt_w_sa ε _ (by omega)]; exact A8 j' hj'
  · rw [if_neg (by rw [c1]; decide), if_neg (show ¬ (wt_gf y.2 108 4) < (wt_gf y.2 108 2) from fun h => by have := wt_clt h; omega)]
    by_cases hi0 : i = 0
    · rw [if_pos (Int32.le_iff_toInt_le.mpr (by omega)), if_pos (wt_eqI (by omega))]
      unfold wp_md_text_B84
      refine wt_HH_l (wh_fail n (x := (1 : Int32)) (f := 1) (by decide) st') (fun q14 h14 => ?_)
      rw [h14.1]
      refine wt_HH_r (wh_lettersHere n rv) (fun y15 h15 => ?_)
      obtain ⟨u, u2, p1, p2, rv15, e15, f15⟩ := h15
      have eu : u = j := wt_run_u p1 (wt_run_self r)
      rw [eu] at p2 rv15 e15
      have eu2 : u2 = j := by
        have := wt_run_le p2 (by omega)
        have := p2.1
        omega
      rw [eu2] at e15
      have h015 : wt_gf y15.2 108 5 = 0 := (f15.1 108 5 (by (try dsimp only); omega)).trans h0
      have xrt15 : wt_xr T s0 z0 i t.2 y15.2 := wt_xr_fr xr wt_fr.rf f15 (F := fun _ _ => False) (A := fun _ => False) (fun i k h => h.elim) (fun i h => h.elim) (fun i k h => by (try dsimp only at h); omega) (fun i h => h)
      refine wt_HH_r (wr_wordAny n (x4 := wt_gf y15.2 108 28) (β := β) rv15 (x1 := y15.1) (m := 0) (by omega) (by omega) (by omega) xrt15.2.2.2.1 rfl) (fun y16 h16 => ?_)
      rw [h16, if_pos (wt_eqI (a := y15.1) (b := (0 : Int32)) (by omega))]
      have R := WR 1 (1 : Int32) y15.1 y16.1 q14.2 y15.2 K' (by decide) (by omega) (by omega) h14.2.1 rv15 h015 xrt15 (wt_fr.tr W2 h14.2.2 (fun i k h => by (try dsimp only at h); omega) (fun i h => h.elim))
      exact R
    · rw [if_neg (fun h => by have := wt_cle h; omega), if_neg (fun h => by have := wt_ceq h; omega)]
      obtain ⟨A1, A2, A3, A4, A5, A6, A7, A8, A9⟩ := xr2
      refine wt_HH_lt (wt_HH_ofA (wh_close n hn (z := y.2) (m := i) i1 i3 A1 A3 A4 (fun j hj => (A5 j hj).2)) (wh_textEnd n (m := i) h0 i1 i3 A2 A3)) (fun a y' hab => ?_)
      obtain ⟨⟨a1, fa, a34, a36, a36o, a37o, a37⟩, hy⟩ := hab
      obtain ⟨b1, fb, b3, b39, b253, b253o, b255⟩ := hy
      have FA : wt_fr (fun i k => (i = 1 ∧ 2 ≤ k) ∨ (i = 34 ∧ k = 4)) (fun i => i = 3 ∨ i = 35 ∨ i = 36 ∨ i = 37 ∨ i = 38) s0 a.2 := wt_fr.tr (wt_frw A7 (fun i k h => Or.inl h) (fun i h => by (try dsimp only at h); omega)) fa (fun i k h => Or.inr h) (fun i h => by (try dsimp only at h); omega)
      have FB : wt_fr (fun i k => i = 108 ∧ ((3 ≤ k ∧ k < 8) ∨ k = 39)) (fun i => i = 274 ∨ i = 253 ∨ i = 255 + T) z0 y'.2 := wt_fr.tr (wt_frw A9 (fun i k h => by (try dsimp only at h); omega) (fun i h => Or.inl h)) fb (fun i k h => by (try dsimp only at h); omega) (fun i h => by (try dsimp only at h); omega)
      refine ⟨?_, FB.1 108 0 (by decide), ⟨?_, fun t' ht' => ?_⟩, Or.inr ⟨a1, a34, by rw [b1]; exact A2⟩⟩
      · show wt_gf a.2 1 7 = _
        rw [fa.1 1 7 (by decide), b3]; exact A6
      · show wt_gf a.2 34 4 = _
        exact wt_eqI (a34.trans b39.symm)
      · show wu_X1 a.2 y'.2 t'
        by_cases hc' : t' = T
        · rw [hc']
          refine ⟨i, by rw [a36]; exact i1, by rw [b253, a36], by omega, i3, fun j' hj' => ?_, fun l hl => ?_⟩
          · rw [fa.2 35 (by decide), b255 j' hj', fb.1 108 28 (by decide)]
            exact A5 j' hj'
          · rw [a37 l hl]
            unfold wt_nt
            rw [b253, wt_tnN i1]
            refine wt_sum_congr i (fun k' hk' => ?_)
            have A5k := A5 k' hk'
            show wt_nw y.2 _ _ = wt_nw y'.2 _ _
            rw [b255 k' hk', ← A5k.1]
            have gW : (wt_gf y.2 108 28).toInt ≤ 60 := by
              obtain ⟨W, G, ⟨w1, w2, w3⟩, -⟩ := A4
              omega
            have hkk := wt_tnI A5k.2.1
            unfold wt_nw
            rw [fb.2 126 (by (try dsimp only); omega)]
            have e2 : (fun j => (wt_ga y'.2 (193 + Int32.toNatClampNeg (wt_ga q2.2 35 (12 * T + k'))) j).toInt) = (fun j => (wt_ga y.2 (193 + Int32.toNatClampNeg (wt_ga q2.2 35 (12 * T + k'))) j).toInt) := by
              funext j
              rw [fb.2 (193 + Int32.toNatClampNeg (wt_ga q2.2 35 (12 * T + k'))) (by (try dsimp only); omega) j]
            rw [e2]
        · have ht2 : (t' : Int) < (wt_gf z0 108 39).toInt := by omega
          refine wu_X1_eq (tx0.2 t' ht2) rz0 (by omega) ?_ (fun i' hi' => ?_) (fun l hl => ?_) (FB.1 108 28 (by decide)) ?_ (FB.2 (255 + t') (by (try dsimp only); omega)) (fun i' hi' => FB.2 i' (by (try dsimp only); omega))
          · rw [a36o t' hc']; exact A7.2 36 (by decide) t'
          · rw [fa.2 35 (by decide)]; exact A8 _ (by omega)
          · rw [a37o _ (by omega)]; exact A7.2 37 (by decide) _
          · rw [b253o t' hc']; exact A9.2 253 (by decide) t'
