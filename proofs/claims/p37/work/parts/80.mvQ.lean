-- 80.mv.lean.txt
section WTQ0
/-- what may stand at a place of a kept row -/
def wt_kp (j : Nat) (v : Int) : Prop := (j = 1 → 0 ≤ v ∧ v ≤ 10) ∧ (2 ≤ j → j < 678 → j % 2 = 0 → 0 ≤ v ∧ v ≤ 400) ∧ (678 ≤ j → j < 1118 → (j - 678) % 110 = 0 → -1 ≤ v ∧ v ≤ 7) ∧ (678 ≤ j → j < 1118 → (j - 678) % 110 = 1 → 0 ≤ v ∧ v ≤ 108) ∧ (678 ≤ j → j < 1118 → 2 ≤ (j - 678) % 110 → 0 ≤ v ∧ v ≤ 337) ∧ (1118 ≤ j → (j - 1118) % 4 = 0 → 0 ≤ v ∧ v ≤ 7) ∧ (1118 ≤ j → (j - 1118) % 4 = 1 → 0 ≤ v ∧ v ≤ 400)
theorem wt_ln_k (a1 : Nat) (h1 : 283 ≤ a1) (h2 : a1 < 286) : wt_ln a1 = 1158 := by
  have : a1 = 283 ∨ a1 = 284 ∨ a1 = 285 := by omega
  rcases this with h | h | h <;> subst h <;> decide
set_option maxRecDepth 100000 in
set_option maxHeartbeats 4000000 in
theorem wq_md_moves (n : Nat) (hn : 4294967297 < n) (a1 : Nat) (x2 x3 : Int32) (σ : wt_St) (r0 : wt_RI σ) (h1 : 283 ≤ a1) (h2 : a1 < 286) (p0 : 0 ≤ (wt_gf σ 108 42).toInt) (p1 : (wt_gf σ 108 42).toInt < 1158) : wt_T (wp_md_moves n a1 x2 x3 σ) (fun q => wt_fr (fun i k => i = 108 ∧ k = 42) (fun i => i = a1) σ q.2 ∧ wt_RI q.2 ∧ (wt_gf q.2 108 42).toInt = (wt_gf σ 108 42).toInt + 1 ∧ q.1 = wt_ga q.2 a1 (Int32.toNatClampNeg (wt_gf σ 108 42)) ∧ (∀ j, j ≠ Int32.toNatClampNeg (wt_gf σ 108 42) → wt_ga q.2 a1 j = wt_ga σ a1 j) ∧ (x3.toInt = 0 → q.1 = x2) ∧ (x3.toInt ≠ 0 → wt_ga q.2 a1 (Int32.toNatClampNeg (wt_gf σ 108 42)) = wt_ga σ a1 (Int32.toNatClampNeg (wt_gf σ 108 42)))) := by
  have k0 : (0 : Int32).toInt = 0 := by decide
  have k1 : (1 : Int32).toInt = 1 := by decide
  have hl := wt_ln_k a1 h1 h2
  have B : ∀ s : wt_St, wt_RI s → wt_gf s 108 42 = wt_gf σ 108 42 → wt_T (wp_md_moves_B11 n a1 s) (fun q => wt_fr (fun i k => i = 108 ∧ k = 42) (fun _ => False) s q.2 ∧ wt_RI q.2 ∧ (wt_gf q.2 108 42).toInt = (wt_gf σ 108 42).toInt + 1 ∧ q.1 = wt_ga s a1 (Int32.toNatClampNeg (wt_gf σ 108 42))) := by
    intro s rs es
    unfold wp_md_moves_B11
    obtain ⟨σ1, ε1⟩ : ∃ o : wt_St, o = wt_sf s 108 42 ((wt_gf s 108 42) + (1 : Int32)) := ⟨_, rfl⟩
    rw [← ε1]
    have f1 := wt_fr_sf ε1
    have v1 := wt_ceq (wt_v_sf ε1)
    have ei := wt_i1 (c := wt_gf s 108 42) (by rw [es]; omega)
    have es1 := wt_subE (x := wt_gf σ1 108 42) (y := (1 : Int32)) (by rw [v1, ei, es]; omega) (by rw [v1, ei, es]; omega)
    have ee : (wt_gf σ1 108 42) - (1 : Int32) = wt_gf σ 108 42 := wt_eqI (by rw [es1, v1, ei, es]; omega)
    rw [ee]
    refine wt_T_gd (wt_ix (by omega) (by omega)) ?_
    refine wt_T_some ⟨f1, wt_RI_fno rs ε1 (Or.inr (by decide +kernel)), (show (wt_gf σ1 108 42).toInt = _ by rw [v1, ei, es]), f1.2 a1 (fun h => h) _⟩
  unfold wp_md_moves
  refine wt_T_if (fun h => ?_) (fun h => ?_)
  · have c := wt_ceq h
    refine wt_T_gd (wt_ix (by omega) (by omega)) ?_
    obtain ⟨σ1, ε1⟩ : ∃ o : wt_St, o = wt_sa σ a1 (Int32.toNatClampNeg (wt_gf σ 108 42)) x2 := ⟨_, rfl⟩
    rw [← ε1]
    have f1 := wt_fr_sa ε1
    refine wt_T.imp (B σ1 (wt_RI_no r0 ε1 283 286 (by decide +kernel) h1 h2) (f1.1 108 42 (fun h => h))) (fun q hq => ?_)
    obtain ⟨fq, rq, sq, vq⟩ := hq
    have vv : wt_ga q.2 a1 (Int32.toNatClampNeg (wt_gf σ 108 42)) = x2 := (fq.2 a1 (fun h => h) _).trans (wt_v_sa ε1)
    refine ⟨wt_fr.tr (wt_fr.tr wt_fr.rf f1 (fun i k (h : False) => h.elim) (fun i h => h)) fq (fun i k h => h) (fun i (h : False) => h.elim), rq, sq, ?_, fun j hj => ?_, fun _ => ?_, fun hne => absurd (c.trans k0) hne⟩
    · rw [vv, vq, wt_v_sa ε1]
    · rw [fq.2 a1 (fun h => h) j, wt_w_sa ε1 j hj]
    · rw [vq, wt_v_sa ε1]
  · have c := wt_nceq h
    refine wt_T.imp (B σ r0 rfl) (fun q hq => ?_)
    obtain ⟨fq, rq, sq, vq⟩ := hq
    refine ⟨wt_fr.tr wt_fr.rf fq (fun i k h => h) (fun i (h : False) => h.elim), rq, sq, ?_, fun j _ => fq.2 a1 (fun h => h) j, fun hz => absurd (hz.trans k0.symm) c, fun _ => fq.2 a1 (fun h => h) _⟩
    rw [vq, fq.2 a1 (fun h => h)]
/-- a kept row and the model while pieces move: p places are done -/
def wt_KM (a1 : Nat) (x2 : Int32) (σ s : wt_St) (p : Nat) : Prop := wt_RI s ∧ (wt_gf s 108 42).toInt = (p : Int) ∧ (∀ j, j < p → wt_kp j (wt_ga s a1 j).toInt) ∧ (x2.toInt ≠ 0 → ∀ j, wt_ga s a1 j = wt_ga σ a1 j) ∧ (x2.toInt = 0 → (∀ i, i ≠ a1 → ∀ j, wt_ga s i j = wt_ga σ i j) ∧ ∀ i k, ¬ (i = 108 ∧ k = 42) → wt_gf s i k = wt_gf σ i k)
set_option maxRecDepth 100000 in
set_option maxHeartbeats 4000000 in
theorem wq_md_move1 (n : Nat) (hn : 4294967297 < n) (a1 : Nat) (x2 : Int32) (σ s : wt_St) (p i j0 : Nat) (h1 : 283 ≤ a1) (h2 : a1 < 286) (km : wt_KM a1 x2 σ s p) (hk : x2.toInt ≠ 0 → ∀ j, j < 1158 → wt_kp j (wt_ga σ a1 j).toInt) (hp : p < 1158) (hi : i ≠ a1) (h0 : wt_kp p (wt_ga s i j0).toInt) (hr : ∀ (s1 s' : wt_St) (v : Int32), wt_RI s1 → wt_kp p v.toInt → s' = wt_sa s1 i j0 v → wt_RI s') : wt_T (wp_md_moves n a1 (wt_ga s i j0) x2 s) (fun q => ∀ s', s' = wt_sa q.2 i j0 q.1 → wt_KM a1 x2 σ s' (p + 1) ∧ wt_ga s' i j0 = wt_ga s' a1 p ∧ (∀ i', i' ≠ a1 → i' ≠ i → ∀ j, wt_ga s' i' j = wt_ga s i' j) ∧ (∀ j, j ≠ j0 → wt_ga s' i j = wt_ga s i j) ∧ (∀ j, j < p → wt_ga s' a1 j = wt_ga s a1 j) ∧ wt_fr (fun i k => i = 108 ∧ k = 42) (fun i' => i' = a1 ∨ i' = i) s s') := by
  obtain ⟨rs, sp, kp, kr, ks⟩ := km
  have hsp : Int32.toNatClampNeg (wt_gf s 108 42) = p := wt_tnN sp
  refine wt_T.imp (wq_md_moves n hn a1 (wt_ga s i j0) x2 s rs h1 h2 (by omega) (by omega)) (fun q hq s' es => ?_)
  rw [hsp] at hq
  obtain ⟨fq, rq, sq, vq, wq, zq, nq⟩ := hq
  have f1 := wt_fr_sa es
  have hv : wt_kp p q.1.toInt := by
    by_cases hz : x2.toInt = 0
    · rw [zq hz]; exact h0
    · rw [vq, nq hz, kr hz]; exact hk hz p hp
  have a1s : ∀ j, wt_ga s' a1 j = wt_ga q.2 a1 j := f1.2 a1 (fun h => hi h.symm)
  have fr2 : wt_fr (fun i k => i = 108 ∧ k = 42) (fun i' => i' = a1 ∨ i' = i) s s' := wt_fr.tr (wt_fr.tr wt_fr.rf fq (fun i k h => h) (fun i h => Or.inl h)) f1 (fun i k (h : False) => h.elim) (fun i h => Or.inr h)
  refine ⟨⟨hr q.2 s' q.1 rq hv es, ?_, fun j hj => ?_, fun hz j => ?_, fun hz => ⟨fun i' hi' j => ?_, fun i' k hk' => ?_⟩⟩, ?_, fun i' hi1 hi2 j => fr2.2 i' (fun h => h.elim hi1 hi2) j, fun j hj => ?_, fun j hj => ?_, fr2⟩
  · rw [f1.1 108 42 (fun h => h), sq, sp]
    rfl
  · rw [a1s]
    by_cases hc : j = p
    · rw [hc, ← vq]; exact hv
    · rw [wq j hc]; exact kp j (by omega)
  · rw [a1s]
    by_cases hc : j = p
    · rw [hc, nq hz]; exact kr hz p
    · rw [wq j hc]; exact kr hz j
  · by_cases hc : i' = i
    · subst hc
      by_cases hd : j = j0
      · subst hd
        rw [wt_v_sa es, zq hz]
        exact (ks hz).1 _ hi' _
      · rw [wt_w_sa es j hd, fq.2 _ hi' j]
        exact (ks hz).1 _ hi' _
    · rw [f1.2 i' hc j, fq.2 i' hi' j]
      exact (ks hz).1 _ hi' _
  · rw [f1.1 i' k (fun h => h), fq.1 i' k hk']
    exact (ks hz).2 i' k hk'
  · rw [wt_v_sa es, a1s, vq]
  · rw [wt_w_sa es j hj, fq.2 i hi j]
  · rw [a1s, wq j (by omega)]
set_option maxRecDepth 100000 in
set_option maxHeartbeats 4000000 in
theorem wq_md_move1F (n : Nat) (hn : 4294967297 < n) (a1 : Nat) (x2 : Int32) (σ s : wt_St) (p kf : Nat) (h1 : 283 ≤ a1) (h2 : a1 < 286) (km : wt_KM a1 x2 σ s p) (hk : x2.toInt ≠ 0 → ∀ j, j < 1158 → wt_kp j (wt_ga σ a1 j).toInt) (hp : p < 1158) (hkf : kf ≠ 42) (h0 : wt_kp p (wt_gf s 108 kf).toInt) (hr : ∀ (s1 s' : wt_St) (v : Int32), wt_RI s1 → wt_kp p v.toInt → s' = wt_sf s1 108 kf v → wt_RI s') : wt_T (wp_md_moves n a1 (wt_gf s 108 kf) x2 s) (fun q => ∀ s', s' = wt_sf q.2 108 kf q.1 → wt_KM a1 x2 σ s' (p + 1) ∧ wt_fr (fun i k => i = 108 ∧ (k = 42 ∨ k = kf)) (fun i' => i' = a1) s s') := by
  obtain ⟨rs, sp, kp, kr, ks⟩ := km
  have hsp : Int32.toNatClampNeg (wt_gf s 108 42) = p := wt_tnN sp
  refine wt_T.imp (wq_md_moves n hn a1 (wt_gf s 108 kf) x2 s rs h1 h2 (by omega) (by omega)) (fun q hq s' es => ?_)
  rw [hsp] at hq
  obtain ⟨fq, rq, sq, vq, wq, zq, nq⟩ := hq
  have f1 := wt_fr_sf es
  have hv : wt_kp p q.1.toInt := by
    by_cases hz : x2.toInt = 0
    · rw [zq hz]; exact h0
    · rw [vq, nq hz, kr hz]; exact hk hz p hp
  have a1s : ∀ j, wt_ga s' a1 j = wt_ga q.2 a1 j := f1.2 a1 (fun h => h)
  refine ⟨⟨hr q.2 s' q.1 rq hv es, ?_, fun j hj => ?_, fun hz j => ?_, fun hz => ⟨fun i' hi' j => ?_, fun i' k hk' => ?_⟩⟩, wt_fr.tr (wt_fr.tr wt_fr.rf fq (fun i k h => ⟨h.1, Or.inl h.2⟩) (fun i h => h)) f1 (fun i k h => ⟨h.1, Or.inr h.2⟩) (fun i (h : False) => h.elim)⟩
  · rw [f1.1 108 42 (fun h => hkf h.2.symm), sq, sp]
    rfl
  · rw [a1s]
    by_cases hc : j = p
    · rw [hc, ← vq]; exact hv
    · rw [wq j hc]; exact kp j (by omega)
  · rw [a1s]
    by_cases hc : j = p
    · rw [hc, nq hz]; exact kr hz p
    · rw [wq j hc]; exact kr hz j
  · rw [f1.2 i' (fun h => h) j, fq.2 i' hi' j]
    exact (ks hz).1 _ hi' _
  · by_cases hc : i' = 108 ∧ k = kf
    · obtain ⟨rfl, rfl⟩ := hc
      rw [wt_v_sf es, zq hz]
      exact (ks hz).2 _ _ hk'
    · rw [f1.1 i' k hc, fq.1 i' k hk']
      exact (ks hz).2 i' k hk'
/-- a page and its places in a kept row -/
def wt_EQ (a1 : Nat) (s : wt_St) (g : Nat) : Prop := wt_ga s 275 g = wt_ga s a1 (678 + 110 * g) ∧ wt_ga s 276 g = wt_ga s a1 (679 + 110 * g) ∧ ∀ k, k < 108 → wt_ga s (278 + g) k = wt_ga s a1 (680 + 110 * g + k)
theorem wt_EQ_keep {a1 : Nat} {s s' : wt_St} {g p : Nat} (h : wt_EQ a1 s g) (hp : 788 + 110 * g ≤ p) (hrow : ∀ j, j < p → wt_ga s' a1 j = wt_ga s a1 j) (h1 : wt_ga s' 275 g = wt_ga s 275 g) (h2 : wt_ga s' 276 g = wt_ga s 276 g) (h3 : ∀ k, wt_ga s' (278 + g) k = wt_ga s (278 + g) k) : wt_EQ a1 s' g := by
  refine ⟨?_, ?_, fun k hk => ?_⟩
  · rw [h1, hrow _ (by omega)]; exact h.1
  · rw [h2, hrow _ (by omega)]; exact h.2.1
  · rw [h3, hrow _ (by omega)]; exact h.2.2 k hk
def wt_mA (a1 i : Nat) : Prop := i = a1 ∨ i = 121 ∨ i = 124 ∨ i = 275 ∨ i = 276 ∨ (278 ≤ i ∧ i < 282) ∨ (264 ≤ i ∧ i < 274)
def wt_mF (i k : Nat) : Prop := i = 108 ∧ (k = 42 ∨ k = 26 ∨ k = 40)
set_option maxRecDepth 100000 in
set_option maxHeartbeats 4000000 in
theorem wq_md_movesAll_w (n : Nat) (hn : 4294967297 < n) (a1 : Nat) (x2 : Int32) (σ : wt_St) (h1 : 283 ≤ a1) (h2 : a1 < 286) (hk : x2.toInt ≠ 0 → ∀ j, j < 1158 → wt_kp j (wt_ga σ a1 j).toInt) (s0 : wt_St) (km : wt_KM a1 x2 σ s0 1118) (fr : wt_fr wt_mF (wt_mA a1) σ s0) (eq : ∀ g, g < 4 → wt_EQ a1 s0 g) : wt_T (wt_it (wp_md_movesAll_B175 n a1 x2) n ((0 : Int32), s0)) (fun q => wt_KM a1 x2 σ q 1158 ∧ wt_fr wt_mF (wt_mA a1) σ q ∧ ∀ g, g < 4 → wt_EQ a1 q g) := by
  have k0 : (0 : Int32).toInt = 0 := by decide
  have k4 : (4 : Int32).toInt = 4 := by decide
  have k10 : (10 : Int32).toInt = 10 := by decide
  refine wt_T_it (fun s : Int32 × wt_St => 0 ≤ s.1.toInt ∧ s.1.toInt ≤ 10 ∧ wt_KM a1 x2 σ s.2 (1118 + 4 * Int32.toNatClampNeg s.1) ∧ wt_fr wt_mF (wt_mA a1) σ s.2 ∧ ∀ g, g < 4 → wt_EQ a1 s.2 g) (fun s => (10 - s.1.toInt).toNat) (fun K z hI hK => ?_) n _ ?_ ?_
  · obtain ⟨l1, l2, kz, fz, ez⟩ := hI
    have et := wt_tnI l1
    unfold wp_md_movesAll_B175
    refine wt_T_if (fun h => ?_) (fun h => ?_)
    · have c := wt_cle h
      refine wt_T_some ⟨?_, fz, ez⟩
      rw [show 1158 = 1118 + 4 * Int32.toNatClampNeg z.1 by omega]
      exact kz
    · have c := wt_ncle h
      have ei := wt_i1 (c := z.1) (by omega)
      refine wt_T_it (fun s : Int32 × wt_St => 0 ≤ s.1.toInt ∧ s.1.toInt ≤ 4 ∧ wt_KM a1 x2 σ s.2 (1118 + 4 * Int32.toNatClampNeg z.1 + Int32.toNatClampNeg s.1) ∧ wt_fr wt_mF (wt_mA a1) σ s.2 ∧ ∀ g, g < 4 → wt_EQ a1 s.2 g) (fun s => (4 - s.1.toInt).toNat) (fun K2 y hJ hK2 => ?_) n _ ?_ ?_
      · obtain ⟨m1, m2, ky, fy, ey⟩ := hJ
        have em := wt_tnI m1
        unfold wp_md_movesAll_B184
        refine wt_T_if (fun h3 => ?_) (fun h3 => ?_)
        · have c3 := wt_cle h3
          refine hK _ ⟨(show 0 ≤ (z.1 + (1 : Int32)).toInt by omega), (show (z.1 + (1 : Int32)).toInt ≤ 10 by omega), ?_, fy, ey⟩ (show (10 - (z.1 + (1 : Int32)).toInt).toNat < (10 - z.1.toInt).toNat by omega)
          show wt_KM a1 x2 σ y.2 (1118 + 4 * Int32.toNatClampNeg (z.1 + (1 : Int32)))
          rw [wt_tn_i1 l1 (by omega), show 1118 + 4 * (Int32.toNatClampNeg z.1 + 1) = 1118 + 4 * Int32.toNatClampNeg z.1 + Int32.toNatClampNeg y.1 by omega]
          exact ky
        · have c3 := wt_ncle h3
          have ej := wt_i1 (c := y.1) (by omega)
          refine wt_T_gd (wt_ix (by omega) (by omega)) ?_
          refine wt_T_gd (wt_ix (by omega) (by omega)) ?_
          refine wt_T_gd (wt_ix (by omega) (by omega)) ?_
          have gz := ky.1.2.2 (264 + Int32.toNatClampNeg z.1) (by omega) (by omega)
          refine wt_T_bi (wq_md_move1 n hn a1 x2 σ y.2 (1118 + 4 * Int32.toNatClampNeg z.1 + Int32.toNatClampNeg y.1) (264 + Int32.toNatClampNeg z.1) (Int32.toNatClampNeg y.1) h1 h2 ky hk (by omega) (by omega) ?_ ?_) (fun q hq => ?_)
          · have hy4 : Int32.toNatClampNeg y.1 < 4 := by omega
            generalize Int32.toNatClampNeg y.1 = f at *
            have : f = 0 ∨ f = 1 ∨ f = 2 ∨ f = 3 := by omega
            rcases this with rfl | rfl | rfl | rfl
            · exact ⟨by intros; omega, by intros; omega, by intros; omega, by intros; omega, by intros; omega, by intros; omega, by intros; omega⟩
            · exact ⟨by intros; omega, by intros; omega, by intros; omega, by intros; omega, by intros; omega, by intros; omega, by intros; omega⟩
            · exact ⟨by intros; omega, by intros; omega, by intros; omega, by intros; omega, by intros; omega, by intros; omega, by intros; omega⟩
            · exact ⟨by intros; omega, by intros; omega, by intros; omega, by intros; omega, by intros; omega, by intros; omega, by intros; omega⟩
          · intro s1 s' v r1 hv es
            exact wt_RI_w r1 es (by omega) (by omega) (fun hf => hv.2.2.2.2.2.1 (by omega) (by omega)) (fun hf => hv.2.2.2.2.2.2 (by omega) (by omega))
          · refine wt_T_gd (wt_ix (by omega) (by omega)) ?_
            obtain ⟨kq, -, oq, -, wq, fq⟩ := hq _ rfl
            refine hK2 _ ⟨(show 0 ≤ (y.1 + (1 : Int32)).toInt by omega), (show (y.1 + (1 : Int32)).toInt ≤ 4 by omega), ?_, wt_fr.tr fy fq (fun i k h => ⟨h.1, Or.inl h.2⟩) (fun i h => by unfold wt_mA; omega), fun g hg => wt_EQ_keep (p := 1118 + 4 * Int32.toNatClampNeg z.1 + Int32.toNatClampNeg y.1) (ey g hg) (by omega) wq (oq 275 (by omega) (by omega) g) (oq 276 (by omega) (by omega) g) (oq (278 + g) (by omega) (by omega))⟩ (show (4 - (y.1 + (1 : Int32)).toInt).toNat < (4 - y.1.toInt).toNat by omega)
            have e1 : Int32.toNatClampNeg (y.1 + (1 : Int32)) = Int32.toNatClampNeg y.1 + 1 := wt_tn_i1 m1 (by omega)
            rw [show 1118 + 4 * Int32.toNatClampNeg z.1 + Int32.toNatClampNeg (y.1 + (1 : Int32)) = 1118 + 4 * Int32.toNatClampNeg z.1 + Int32.toNatClampNeg y.1 + 1 by omega]
            exact kq
      · refine ⟨(show 0 ≤ (0 : Int32).toInt by omega), (show (0 : Int32).toInt ≤ 4 by omega), ?_, fz, ez⟩
        show wt_KM a1 x2 σ z.2 (1118 + 4 * Int32.toNatClampNeg z.1 + Int32.toNatClampNeg (0 : Int32))
        rw [wt_tn0]
        exact kz
      · show (4 - (0 : Int32).toInt).toNat < n
        omega
  · refine ⟨(show 0 ≤ (0 : Int32).toInt by omega), (show (0 : Int32).toInt ≤ 10 by omega), ?_, fr, eq⟩
    show wt_KM a1 x2 σ s0 (1118 + 4 * Int32.toNatClampNeg (0 : Int32))
    rw [wt_tn0]
    exact km
  · show (10 - (0 : Int32).toInt).toNat < n
    omega
set_option maxRecDepth 100000 in
set_option maxHeartbeats 4000000 in
theorem wq_md_movesAll_p (n : Nat) (hn : 4294967297 < n) (a1 : Nat) (x2 : Int32) (σ : wt_St) (h1 : 283 ≤ a1) (h2 : a1 < 286) (hk : x2.toInt ≠ 0 → ∀ j, j < 1158 → wt_kp j (wt_ga σ a1 j).toInt) (s0 : wt_St) (km : wt_KM a1 x2 σ s0 678) (fr : wt_fr wt_mF (wt_mA a1) σ s0) : wt_T (wt_it (wp_md_movesAll_B86 n a1 x2) n ((0 : Int32), s0)) (fun q => wt_KM a1 x2 σ q 1158 ∧ wt_fr wt_mF (wt_mA a1) σ q ∧ ∀ g, g < 4 → wt_EQ a1 q g) := by
  have k0 : (0 : Int32).toInt = 0 := by decide
  have k4 : (4 : Int32).toInt = 4 := by decide
  have k108 : (108 : Int32).toInt = 108 := by decide
  refine wt_T_it (fun s : Int32 × wt_St => 0 ≤ s.1.toInt ∧ s.1.toInt ≤ 4 ∧ wt_KM a1 x2 σ s.2 (678 + 110 * Int32.toNatClampNeg s.1) ∧ wt_fr wt_mF (wt_mA a1) σ s.2 ∧ ∀ g : Nat, (g : Int) < s.1.toInt → wt_EQ a1 s.2 g) (fun s => (4 - s.1.toInt).toNat) (fun K z hI hK => ?_) n _ ?_ ?_
  · obtain ⟨l1, l2, kz, fz, ez⟩ := hI
    have et := wt_tnI l1
    unfold wp_md_movesAll_B86
    refine wt_T_if (fun h => ?_) (fun h => ?_)
    · have c := wt_cle h
      refine wq_md_movesAll_w n hn a1 x2 σ h1 h2 hk z.2 ?_ fz (fun g hg => ez g (by omega))
      rw [show 1118 = 678 + 110 * Int32.toNatClampNeg z.1 by omega]
      exact kz
    · have c := wt_ncle h
      have ei := wt_i1 (c := z.1) (by omega)
      have hG : Int32.toNatClampNeg z.1 < 4 := by omega
      have eN : Int32.toNatClampNeg (z.1 + (1 : Int32)) = Int32.toNatClampNeg z.1 + 1 := wt_tn_i1 l1 (by omega)
      refine wt_T_gd (wt_ix (by omega) (by omega)) ?_
      have g1 : -1 ≤ (wt_ga z.2 275 (Int32.toNatClampNeg z.1)).toInt ∧ (wt_ga z.2 275 (Int32.toNatClampNeg z.1)).toInt ≤ 7 := wt_Ra12 kz.1 275 (by decide) (by decide) _
      refine wt_T_bi (wq_md_move1 n hn a1 x2 σ z.2 (678 + 110 * Int32.toNatClampNeg z.1) 275 (Int32.toNatClampNeg z.1) h1 h2 kz hk (by omega) (by omega) ⟨by intros; omega, by intros; omega, by intros; omega, by intros; omega, by intros; omega, by intros; omega, by intros; omega⟩ (fun s1 s' v r1 hv es => by
        have hv2 := hv.2.2.1 (by omega) (by omega) (by omega)
        exact wt_Rn12 r1 es (by decide) (by decide) hv2.1 hv2.2)) (fun qa ha => ?_)
      refine wt_T_gd (wt_ix (by omega) (by omega)) ?_
      refine wt_T_gd (wt_ix (by omega) (by omega)) ?_
      obtain ⟨σ1, ε1⟩ : ∃ o : wt_St, o = wt_sa qa.2 275 (Int32.toNatClampNeg z.1) qa.1 := ⟨_, rfl⟩
      rw [← ε1]
      obtain ⟨k1, v1, o1, w1, r1, f1⟩ := ha σ1 ε1
      have g2 : 0 ≤ (wt_ga σ1 276 (Int32.toNatClampNeg z.1)).toInt ∧ (wt_ga σ1 276 (Int32.toNatClampNeg z.1)).toInt ≤ 108 := wt_Ra13 k1.1 276 (by decide) (by decide) _
      refine wt_T_bi (wq_md_move1 n hn a1 x2 σ σ1 (678 + 110 * Int32.toNatClampNeg z.1 + 1) 276 (Int32.toNatClampNeg z.1) h1 h2 k1 hk (by omega) (by omega) ⟨by intros; omega, by intros; omega, by intros; omega, by intros; omega, by intros; omega, by intros; omega, by intros; omega⟩ (fun s1 s' v r1 hv es => by
        have hv2 := hv.2.2.2.1 (by omega) (by omega) (by omega)
        exact wt_Rn13 r1 es (by decide) (by decide) hv2.1 hv2.2)) (fun qb hb => ?_)
      refine wt_T_gd (wt_ix (by omega) (by omega)) ?_
      obtain ⟨σ2, ε2⟩ : ∃ o : wt_St, o = wt_sa qb.2 276 (Int32.toNatClampNeg z.1) qb.1 := ⟨_, rfl⟩
      rw [← ε2]
      obtain ⟨k2, v2, o2, w2, r2, f2⟩ := hb σ2 ε2
      have e275 : wt_ga σ2 275 (Int32.toNatClampNeg z.1) = wt_ga σ2 a1 (678 + 110 * Int32.toNatClampNeg z.1) := by
        rw [o2 275 (by omega) (by decide), v1, r2 _ (by omega)]
      have e276 : wt_ga σ2 276 (Int32.toNatClampNeg z.1) = wt_ga σ2 a1 (679 + 110 * Int32.toNatClampNeg z.1) := by
        rw [v2]
        congr 1
        omega
      have eo : ∀ g : Nat, (g : Int) < z.1.toInt → wt_EQ a1 σ2 g := fun g hg => by
        have k := wt_EQ_keep (p := 678 + 110 * Int32.toNatClampNeg z.1) (ez g hg) (by omega) r1 (w1 g (by omega)) (o1 276 (by omega) (by decide) g) (o1 (278 + g) (by omega) (by omega))
        exact wt_EQ_keep (p := 678 + 110 * Int32.toNatClampNeg z.1 + 1) k (by omega) r2 (o2 275 (by omega) (by decide) g) (w2 g (by omega)) (o2 (278 + g) (by omega) (by omega))
      have f02 : wt_fr wt_mF (wt_mA a1) σ σ2 := wt_fr.tr (wt_fr.tr fz f1 (fun i k h => ⟨h.1, Or.inl h.2⟩) (fun i h => by unfold wt_mA; omega)) f2 (fun i k h => ⟨h.1, Or.inl h.2⟩) (fun i h => by unfold wt_mA; omega)
      refine wt_T_it (fun s : Int32 × wt_St => 0 ≤ s.1.toInt ∧ s.1.toInt ≤ 108 ∧ wt_KM a1 x2 σ s.2 (680 + 110 * Int32.toNatClampNeg z.1 + Int32.toNatClampNeg s.1) ∧ wt_fr wt_mF (wt_mA a1) σ s.2 ∧ (∀ g : Nat, (g : Int) < z.1.toInt → wt_EQ a1 s.2 g) ∧ wt_ga s.2 275 (Int32.toNatClampNeg z.1) = wt_ga s.2 a1 (678 + 110 * Int32.toNatClampNeg z.1) ∧ wt_ga s.2 276 (Int32.toNatClampNeg z.1) = wt_ga s.2 a1 (679 + 110 * Int32.toNatClampNeg z.1) ∧ ∀ k, k < Int32.toNatClampNeg s.1 → wt_ga s.2 (278 + Int32.toNatClampNeg z.1) k = wt_ga s.2 a1 (680 + 110 * Int32.toNatClampNeg z.1 + k)) (fun s => (108 - s.1.toInt).toNat) (fun K2 y hJ hK2 => ?_) n _ ?_ ?_
      · obtain ⟨m1, m2, ky, fy, ey, y5, y6, yc⟩ := hJ
        have em := wt_tnI m1
        unfold wp_md_movesAll_B130
        refine wt_T_if (fun h3 => ?_) (fun h3 => ?_)
        · have c3 := wt_cle h3
          refine hK _ ⟨(show 0 ≤ (z.1 + (1 : Int32)).toInt by omega), (show (z.1 + (1 : Int32)).toInt ≤ 4 by omega), ?_, fy, fun g hg => ?_⟩ (show (4 - (z.1 + (1 : Int32)).toInt).toNat < (4 - z.1.toInt).toNat by omega)
          · show wt_KM a1 x2 σ y.2 (678 + 110 * Int32.toNatClampNeg (z.1 + (1 : Int32)))
            rw [eN, show 678 + 110 * (Int32.toNatClampNeg z.1 + 1) = 680 + 110 * Int32.toNatClampNeg z.1 + Int32.toNatClampNeg y.1 by omega]
            exact ky
          · have hg' : (g : Int) < (z.1 + (1 : Int32)).toInt := hg
            by_cases hc : g = Int32.toNatClampNeg z.1
            · subst hc
              exact ⟨y5, y6, fun k hk => yc k (by omega)⟩
            · exact ey g (by omega)
        · have c3 := wt_ncle h3
          have ej := wt_i1 (c := y.1) (by omega)
          have eM : Int32.toNatClampNeg (y.1 + (1 : Int32)) = Int32.toNatClampNeg y.1 + 1 := wt_tn_i1 m1 (by omega)
          refine wt_T_gd (wt_ix (by omega) (by omega)) ?_
          refine wt_T_gd (wt_ix (by omega) (by omega)) ?_
          refine wt_T_gd (wt_ix (by omega) (by omega)) ?_
          have g3 : 0 ≤ (wt_ga y.2 (278 + Int32.toNatClampNeg z.1) (Int32.toNatClampNeg y.1)).toInt ∧ (wt_ga y.2 (278 + Int32.toNatClampNeg z.1) (Int32.toNatClampNeg y.1)).toInt ≤ 337 := wt_Ra14 ky.1 (278 + Int32.toNatClampNeg z.1) (show 278 ≤ 278 + Int32.toNatClampNeg z.1 by omega) (show 278 + Int32.toNatClampNeg z.1 < 282 by omega) _
          refine wt_T_bi (wq_md_move1 n hn a1 x2 σ y.2 (680 + 110 * Int32.toNatClampNeg z.1 + Int32.toNatClampNeg y.1) (278 + Int32.toNatClampNeg z.1) (Int32.toNatClampNeg y.1) h1 h2 ky hk (by omega) (by omega) ⟨by intros; omega, by intros; omega, by intros; omega, by intros; omega, by intros; omega, by intros; omega, by intros; omega⟩ (fun s1 s' v r1 hv es => by
            have hv2 := hv.2.2.2.2.1 (by omega) (by omega) (by omega)
            exact wt_Rn14 r1 es (show 278 ≤ 278 + Int32.toNatClampNeg z.1 by omega) (show 278 + Int32.toNatClampNeg z.1 < 282 by omega) hv2.1 hv2.2)) (fun qc hc => ?_)
          refine wt_T_gd (wt_ix (by omega) (by omega)) ?_
          obtain ⟨kq, vq, oq, wq, rq, fq⟩ := hc _ rfl
          refine hK2 _ ⟨(show 0 ≤ (y.1 + (1 : Int32)).toInt by omega), (show (y.1 + (1 : Int32)).toInt ≤ 108 by omega), ?_, wt_fr.tr fy fq (fun i k h => ⟨h.1, Or.inl h.2⟩) (fun i h => by unfold wt_mA; omega), fun g hg => wt_EQ_keep (p := 680 + 110 * Int32.toNatClampNeg z.1 + Int32.toNatClampNeg y.1) (ey g hg) (by omega) rq (oq 275 (by omega) (by omega) g) (oq 276 (by omega) (by omega) g) (oq (278 + g) (by omega) (by omega)), ?_, ?_, fun k hk => ?_⟩ (show (108 - (y.1 + (1 : Int32)).toInt).toNat < (108 - y.1.toInt).toNat by omega)
          · show wt_KM a1 x2 σ _ (680 + 110 * Int32.toNatClampNeg z.1 + Int32.toNatClampNeg (y.1 + (1 : Int32)))
            rw [eM]
            exact kq
          · exact (oq 275 (by omega) (by omega) _).trans (y5.trans (rq _ (by omega)).symm)
          · exact (oq 276 (by omega) (by omega) _).trans (y6.trans (rq _ (by omega)).symm)
          · have hk' : k < Int32.toNatClampNeg (y.1 + (1 : Int32)) := hk
            by_cases hd : k = Int32.toNatClampNeg y.1
            · rw [hd]
              exact vq
            · exact (wq k hd).trans ((yc k (by omega)).trans (rq _ (by omega)).symm)
      · refine ⟨(show 0 ≤ (0 : Int32).toInt by omega), (show (0 : Int32).toInt ≤ 108 by omega), ?_, f02, eo, e275, e276, fun k hk => ?_⟩
        · show wt_KM a1 x2 σ σ2 (680 + 110 * Int32.toNatClampNeg z.1 + Int32.toNatClampNeg (0 : Int32))
          rw [wt_tn0, show 680 + 110 * Int32.toNatClampNeg z.1 + 0 = 678 + 110 * Int32.toNatClampNeg z.1 + 1 + 1 by omega]
          exact k2
        · have hk' : k < Int32.toNatClampNeg (0 : Int32) := hk
          rw [wt_tn0] at hk'
          omega
      · show (108 - (0 : Int32).toInt).toNat < n
        omega
  · refine ⟨(show 0 ≤ (0 : Int32).toInt by omega), (show (0 : Int32).toInt ≤ 4 by omega), ?_, fr, fun g hg => ?_⟩
    · show wt_KM a1 x2 σ s0 (678 + 110 * Int32.toNatClampNeg (0 : Int32))
      rw [wt_tn0]
      exact km
    · have hg' : (g : Int) < (0 : Int32).toInt := hg
      omega
  · show (4 - (0 : Int32).toInt).toNat < n
    omega
set_option maxRecDepth 100000 in
set_option maxHeartbeats 4000000 in
theorem wq_md_movesAll (n : Nat) (hn : 4294967297 < n) (a1 : Nat) (x2 : Int32) (σ : wt_St) (r0 : wt_RI σ) (h1 : 283 ≤ a1) (h2 : a1 < 286) (hk : x2.toInt ≠ 0 → ∀ j, j < 1158 → wt_kp j (wt_ga σ a1 j).toInt) : wt_T (wp_md_movesAll n a1 x2 σ) (fun q => wt_KM a1 x2 σ q 1158 ∧ wt_fr wt_mF (wt_mA a1) σ q ∧ ∀ g, g < 4 → wt_EQ a1 q g) := by
  have k0 : (0 : Int32).toInt = 0 := by decide
  have k338 : (338 : Int32).toInt = 338 := by decide
  unfold wp_md_movesAll
  obtain ⟨s0, ε0⟩ : ∃ o : wt_St, o = wt_sf σ 108 42 (0 : Int32) := ⟨_, rfl⟩
  rw [← ε0]
  have f0 := wt_fr_sf ε0
  have kz : wt_KM a1 x2 σ s0 0 := ⟨wt_RI_fno r0 ε0 (Or.inr (by decide +kernel)), (wt_ceq (wt_v_sf ε0)).trans k0, fun j hj => absurd hj (Nat.not_lt_zero j), fun _ j => f0.2 a1 (fun h => h) j, fun _ => ⟨fun i _ j => f0.2 i (fun h => h) j, fun i k h => f0.1 i k h⟩⟩
  refine wt_T_bi (wq_md_move1F n hn a1 x2 σ s0 0 26 h1 h2 kz hk (by omega) (by omega) ⟨by intros; omega, by intros; omega, by intros; omega, by intros; omega, by intros; omega, by intros; omega, by intros; omega⟩ (fun s1 s' v r1 _ es => wt_RI_fno r1 es (Or.inr (by decide +kernel)))) (fun qa ha => ?_)
  obtain ⟨s1, ε1⟩ : ∃ o : wt_St, o = wt_sf qa.2 108 26 qa.1 := ⟨_, rfl⟩
  rw [← ε1]
  obtain ⟨k1, f1⟩ := ha s1 ε1
  have g1 : 0 ≤ (wt_gf s1 108 40).toInt ∧ (wt_gf s1 108 40).toInt ≤ 10 := wt_Rf8 k1.1
  refine wt_T_bi (wq_md_move1F n hn a1 x2 σ s1 1 40 h1 h2 k1 hk (by omega) (by omega) ⟨by intros; omega, by intros; omega, by intros; omega, by intros; omega, by intros; omega, by intros; omega, by intros; omega⟩ (fun s1 s' v r1 hv es => wt_Rm8 r1 es (hv.1 rfl).1 (hv.1 rfl).2)) (fun qb hb => ?_)
  obtain ⟨s2, ε2⟩ : ∃ o : wt_St, o = wt_sf qb.2 108 40 qb.1 := ⟨_, rfl⟩
  rw [← ε2]
  obtain ⟨k2, f2⟩ := hb s2 ε2
  have f02 : wt_fr wt_mF (wt_mA a1) σ s2 := wt_fr.tr (wt_fr.tr (wt_fr.tr wt_fr.rf f0 (fun i k h => ⟨h.1, Or.inl h.2⟩) (fun i (h : False) => h.elim)) f1 (fun i k h => ⟨h.1, h.2.elim Or.inl (fun h => Or.inr (Or.inl h))⟩) (fun i h => Or.inl h)) f2 (fun i k h => ⟨h.1, h.2.elim Or.inl (fun h => Or.inr (Or.inr h))⟩) (fun i h => Or.inl h)
  refine wt_T_it (fun s : Int32 × wt_St => 0 ≤ s.1.toInt ∧ s.1.toInt ≤ 338 ∧ wt_KM a1 x2 σ s.2 (2 + 2 * Int32.toNatClampNeg s.1) ∧ wt_fr wt_mF (wt_mA a1) σ s.2) (fun s => (338 - s.1.toInt).toNat) (fun K z hI hK => ?_) n _ ?_ ?_
  · obtain ⟨l1, l2, kz, fz⟩ := hI
    have et := wt_tnI l1
    unfold wp_md_movesAll_B35
    refine wt_T_if (fun h => ?_) (fun h => ?_)
    · have c := wt_cle h
      refine wq_md_movesAll_p n hn a1 x2 σ h1 h2 hk z.2 ?_ fz
      rw [show 678 = 2 + 2 * Int32.toNatClampNeg z.1 by omega]
      exact kz
    · have c := wt_ncle h
      have ei := wt_i1 (c := z.1) (by omega)
      have eN : Int32.toNatClampNeg (z.1 + (1 : Int32)) = Int32.toNatClampNeg z.1 + 1 := wt_tn_i1 l1 (by omega)
      refine wt_T_gd (wt_ix (by omega) (by omega)) ?_
      have g2 : 0 ≤ (wt_ga z.2 121 (Int32.toNatClampNeg z.1)).toInt ∧ (wt_ga z.2 121 (Int32.toNatClampNeg z.1)).toInt ≤ 400 := wt_Ra3 kz.1 121 (by decide) (by decide) _
      refine wt_T_bi (wq_md_move1 n hn a1 x2 σ z.2 (2 + 2 * Int32.toNatClampNeg z.1) 121 (Int32.toNatClampNeg z.1) h1 h2 kz hk (by omega) (by omega) ⟨by intros; omega, by intros; omega, by intros; omega, by intros; omega, by intros; omega, by intros; omega, by intros; omega⟩ (fun s1 s' v r1 hv es => by
        have hv2 := hv.2.1 (by omega) (by omega) (by omega)
        exact wt_Rn3 r1 es (by decide) (by decide) hv2.1 hv2.2)) (fun qc hc => ?_)
      refine wt_T_gd (wt_ix (by omega) (by omega)) ?_
      refine wt_T_gd (wt_ix (by omega) (by omega)) ?_
      obtain ⟨s3, ε3⟩ : ∃ o : wt_St, o = wt_sa qc.2 121 (Int32.toNatClampNeg z.1) qc.1 := ⟨_, rfl⟩
      rw [← ε3]
      obtain ⟨k3, -, -, -, -, f3⟩ := hc s3 ε3
      refine wt_T_bi (wq_md_move1 n hn a1 x2 σ s3 (2 + 2 * Int32.toNatClampNeg z.1 + 1) 124 (Int32.toNatClampNeg z.1) h1 h2 k3 hk (by omega) (by omega) ⟨by intros; omega, by intros; omega, by intros; omega, by intros; omega, by intros; omega, by intros; omega, by intros; omega⟩ (fun s1 s' v r1 hv es => wt_RI_no r1 es 124 125 (by decide +kernel) (by decide) (by decide))) (fun qd hd => ?_)
      refine wt_T_gd (wt_ix (by omega) (by omega)) ?_
      obtain ⟨k4, -, -, -, -, f4⟩ := hd _ rfl
      refine hK _ ⟨(show 0 ≤ (z.1 + (1 : Int32)).toInt by omega), (show (z.1 + (1 : Int32)).toInt ≤ 338 by omega), ?_, wt_fr.tr (wt_fr.tr fz f3 (fun i k h => ⟨h.1, Or.inl h.2⟩) (fun i h => by unfold wt_mA; omega)) f4 (fun i k h => ⟨h.1, Or.inl h.2⟩) (fun i h => by unfold wt_mA; omega)⟩ (show (338 - (z.1 + (1 : Int32)).toInt).toNat < (338 - z.1.toInt).toNat by omega)
      show wt_KM a1 x2 σ _ (2 + 2 * Int32.toNatClampNeg (z.1 + (1 : Int32)))
      rw [eN, show 2 + 2 * (Int32.toNatClampNeg z.1 + 1) = 2 + 2 * Int32.toNatClampNeg z.1 + 1 + 1 by omega]
      exact k4
  · refine ⟨(show 0 ≤ (0 : Int32).toInt by omega), (show (0 : Int32).toInt ≤ 338 by omega), ?_, f02⟩
    show wt_KM a1 x2 σ s2 (2 + 2 * Int32.toNatClampNeg (0 : Int32))
    rw [wt_tn0]
    exact k2
  · show (338 - (0 : Int32).toInt).toNat < n
    omega
/-- a kept row: ranges, and its pages hold what their texts need, no piece twice -/
def wt_KG (σ : wt_St) (a1 : Nat) : Prop := ∀ g, g < 4 → (wt_ga σ a1 (678 + 110 * g)).toInt ≠ -1 → (wt_ga σ a1 (678 + 110 * g)).toInt < (wt_gf σ 108 39).toInt ∧ ∀ l : Int, 0 ≤ l → l < 26 → wt_nt σ (Int32.toNatClampNeg (wt_ga σ a1 (678 + 110 * g))) l ≤ wt_ct (fun k => (wt_ga σ a1 (680 + 110 * g + k)).toInt / 13) l (Int32.toNatClampNeg (wt_ga σ a1 (679 + 110 * g)))
def wt_KD (σ : wt_St) (a1 : Nat) : Prop := ∀ g, g < 4 → ∀ k k' : Nat, k' < k → (k : Int) < (wt_ga σ a1 (679 + 110 * g)).toInt → wt_ga σ a1 (680 + 110 * g + k') ≠ wt_ga σ a1 (680 + 110 * g + k)
def wt_KK (σ : wt_St) (a1 : Nat) : Prop := (∀ j, j < 1158 → wt_kp j (wt_ga σ a1 j).toInt) ∧ wt_KG σ a1 ∧ wt_KD σ a1
def wt_KR (σ : wt_St) : Prop := ∀ i : Nat, (i : Int) < (wt_gf σ 108 41).toInt → wt_KK σ (283 + i)
/-- what texts and words are made of -/
def wt_TA (i : Nat) : Prop := i = 126 ∨ (193 ≤ i ∧ i < 254) ∨ (255 ≤ i ∧ i < 263)
theorem wt_nw_ta {σ σ' : wt_St} {w : Nat} {l : Int} (hw : w ≤ 59) (h : ∀ i, wt_TA i → ∀ j, wt_ga σ' i j = wt_ga σ i j) : wt_nw σ' w l = wt_nw σ w l := by
  unfold wt_nw
  rw [h 126 (Or.inl rfl) w]
  have e : (fun k => (wt_ga σ' (193 + w) k).toInt) = (fun k => (wt_ga σ (193 + w) k).toInt) := by
    funext k
    rw [h (193 + w) (Or.inr (Or.inl ⟨by omega, by omega⟩)) k]
  rw [e]
theorem wt_nt_ta {σ σ' : wt_St} {t : Nat} {l : Int} (r : wt_RI σ) (ht : t ≤ 7) (h : ∀ i, wt_TA i → ∀ j, wt_ga σ' i j = wt_ga σ i j) : wt_nt σ' t l = wt_nt σ t l := by
  unfold wt_nt
  rw [h 253 (Or.inr (Or.inl ⟨by omega, by omega⟩)) t]
  have e : (fun k => wt_nw σ' (Int32.toNatClampNeg (wt_ga σ' (255 + t) k)) l) = (fun k => wt_nw σ (Int32.toNatClampNeg (wt_ga σ (255 + t) k)) l) := by
    funext k
    have g := wt_Ra10 r (255 + t) (show 255 ≤ 255 + t by omega) (show 255 + t < 263 by omega) k
    rw [h (255 + t) (Or.inr (Or.inr ⟨by omega, by omega⟩)) k]
    exact wt_nw_ta (wt_tnle (b := 59) g.2) h
  rw [e]
theorem wt_KK_eq {σ σ' : wt_St} {a1 : Nat} (r : wt_RI σ) (k : wt_KK σ a1) (hf : wt_gf σ' 108 39 = wt_gf σ 108 39) (h : ∀ i, wt_TA i → ∀ j, wt_ga σ' i j = wt_ga σ i j) (ha : ∀ j, wt_ga σ' a1 j = wt_ga σ a1 j) : wt_KK σ' a1 := by
  have ef : wt_ga σ' a1 = wt_ga σ a1 := funext ha
  obtain ⟨k1, k2, k3⟩ := k
  refine ⟨fun j hj => by rw [ha]; exact k1 j hj, fun g hg hne => ?_, fun g hg k k' h1 h2 => ?_⟩
  · simp only [ha] at hne ⊢
    rw [hf]
    refine ⟨(k2 g hg hne).1, fun l h0 h1 => ?_⟩
    have hr := (k1 (678 + 110 * g) (by omega)).2.2.1 (by omega) (by omega) (by omega)
    rw [wt_nt_ta r (wt_tnle (b := 7) hr.2) h]
    exact (k2 g hg hne).2 l h0 h1
  · simp only [ha] at h2 ⊢
    exact k3 g hg k k' h1 h2
/-- pages that equal the places of a row -/
theorem wt_KG_of {σ : wt_St} {a1 : Nat} (r : wt_RI σ) (p : wt_PG σ) (e : ∀ g, g < 4 → wt_EQ a1 σ g) : wt_KG σ a1 := by
  intro g hg hne
  obtain ⟨e1, e2, e3⟩ := e g hg
  rw [← e1] at hne ⊢
  refine ⟨(p g hg hne).1, fun l h0 h1 => ?_⟩
  have h := (p g hg hne).2 l h0 h1
  unfold wt_pc at h
  rw [← e2]
  have gm : 0 ≤ (wt_ga σ 276 g).toInt ∧ (wt_ga σ 276 g).toInt ≤ 108 := wt_Ra13 r 276 (by decide) (by decide) g
  rw [wt_ct_congr (g := fun k => (wt_ga σ (278 + g) k).toInt / 13) _ (fun k hk => by
    have := wt_tnle (b := 108) gm.2
    show (wt_ga σ a1 (680 + 110 * g + k)).toInt / 13 = (wt_ga σ (278 + g) k).toInt / 13
    rw [e3 k (by omega)])]
  exact h
theorem wt_PG_of {σ : wt_St} {a1 : Nat} (r : wt_RI σ) (p : wt_KG σ a1) (e : ∀ g, g < 4 → wt_EQ a1 σ g) : wt_PG σ := by
  intro g hg hne
  obtain ⟨e1, e2, e3⟩ := e g hg
  have h := p g hg (by rw [← e1]; exact hne)
  rw [← e1] at h
  refine ⟨h.1, fun l h0 h1 => ?_⟩
  have h2 := h.2 l h0 h1
  unfold wt_pc
  rw [← e2] at h2
  have gm : 0 ≤ (wt_ga σ 276 g).toInt ∧ (wt_ga σ 276 g).toInt ≤ 108 := wt_Ra13 r 276 (by decide) (by decide) g
  rw [wt_ct_congr (g := fun k => (wt_ga σ a1 (680 + 110 * g + k)).toInt / 13) _ (fun k hk => by
    have := wt_tnle (b := 108) gm.2
    show (wt_ga σ (278 + g) k).toInt / 13 = (wt_ga σ a1 (680 + 110 * g + k)).toInt / 13
    rw [e3 k (by omega)])]
  exact h2
theorem wt_KD_of {σ : wt_St} {a1 : Nat} (r : wt_RI σ) (p : wt_PD σ) (e : ∀ g, g < 4 → wt_EQ a1 σ g) : wt_KD σ a1 := by
  intro g hg k k' h1 h2
  obtain ⟨-, e2, e3⟩ := e g hg
  have gm : 0 ≤ (wt_ga σ 276 g).toInt ∧ (wt_ga σ 276 g).toInt ≤ 108 := wt_Ra13 r 276 (by decide) (by decide) g
  rw [← e2] at h2
  rw [← e3 k (by omega), ← e3 k' (by omega)]
  exact p g hg k k' h1 h2
theorem wt_PD_of {σ : wt_St} {a1 : Nat} (r : wt_RI σ) (p : wt_KD σ a1) (e : ∀ g, g < 4 → wt_EQ a1 σ g) : wt_PD σ := by
  intro g hg k k' h1 h2
  obtain ⟨-, e2, e3⟩ := e g hg
  have gm : 0 ≤ (wt_ga σ 276 g).toInt ∧ (wt_ga σ 276 g).toInt ≤ 108 := wt_Ra13 r 276 (by decide) (by decide) g
  rw [e3 k (by omega), e3 k' (by omega)]
  rw [e2] at h2
  exact p g hg k k' h1 h2
/-- what holds between the calls -/
def wt_IV (σ : wt_St) : Prop := wt_RI σ ∧ wt_M12 σ ∧ wt_PG σ ∧ wt_PD σ ∧ wt_KR σ
theorem wt_IV_fr {σ σ' : wt_St} {F : Nat → Nat → Prop} {A : Nat → Prop} (v : wt_IV σ) (r' : wt_RI σ') (f : wt_fr F A σ σ') (h39 : ¬ F 108 39) (h41 : ¬ F 108 41) (hA : ∀ i, wt_PA i ∨ i = 111 ∨ (283 ≤ i ∧ i < 286) → ¬ A i) : wt_IV σ' := by
  obtain ⟨v1, v2, v3, v4, v5⟩ := v
  have g41 : 0 ≤ (wt_gf σ 108 41).toInt ∧ (wt_gf σ 108 41).toInt ≤ 3 := wt_Rf9 v1
  refine ⟨r', wt_M_fr v2 f (hA 111 (Or.inr (Or.inl rfl))), wt_PG_fr v1 v3 f h39 (fun i hi => hA i (Or.inl hi)), wt_PD_fr v4 f (fun i hi => hA i (Or.inl (by unfold wt_PA; omega))), fun i hi => ?_⟩
  rw [f.1 108 41 h41] at hi
  exact wt_KK_eq v1 (v5 i hi) (f.1 108 39 h39) (fun j hj => f.2 j (hA j (Or.inl (by unfold wt_TA at hj; unfold wt_PA; omega)))) (f.2 _ (hA _ (Or.inr (Or.inr ⟨by omega, by omega⟩))))
set_option maxRecDepth 100000 in
set_option maxHeartbeats 4000000 in
theorem wq_md_image (n : Nat) (hn : 4294967297 < n) (σ : wt_St) (v : wt_IV σ) : wt_T (wp_md_image n σ) (fun q => wt_IV q.2 ∧ ∀ i k, (i = 108 ∧ k = 1) ∨ (i = 1 ∧ k = 2) → wt_gf q.2 i k = wt_gf σ i k) := by
  unfold wp_md_image
  have k0 : (0 : Int32).toInt = 0 := by decide
  have k3 : (3 : Int32).toInt = 3 := by decide
  obtain ⟨s0, ε0⟩ : ∃ o : wt_St, o = wt_sf σ 108 0 (0 : Int32) := ⟨_, rfl⟩
  rw [← ε0]
  have f0 := wt_fr_sf ε0
  have v0 : wt_IV s0 := wt_IV_fr v (wt_RI_fno v.1 ε0 (Or.inr (by decide +kernel))) f0 (by omega) (by omega) (fun i _ h => h)
  have e0 : ∀ i k, (i = 108 ∧ k = 1) ∨ (i = 1 ∧ k = 2) → wt_gf s0 i k = wt_gf σ i k := fun i k h => f0.1 i k (by omega)
  refine wt_T_if (fun h => wt_T_some ⟨v0, e0⟩) (fun h => ?_)
  have c := wt_nceq h
  have g41 : 0 ≤ (wt_gf s0 108 41).toInt ∧ (wt_gf s0 108 41).toInt ≤ 3 := wt_Rf9 v0.1
  have h41 := wt_tnI g41.1
  refine wt_T_gd (wt_ix (by omega) (by omega)) ?_
  refine wt_T_bi (wq_md_movesAll n hn (283 + Int32.toNatClampNeg (wt_gf s0 108 41)) (0 : Int32) s0 v0.1 (by omega) (by omega) (fun h => absurd k0 h)) (fun q hq => ?_)
  obtain ⟨⟨rq, -, kp, -, ks⟩, -, eq⟩ := hq
  have fq : wt_fr (fun i k => i = 108 ∧ k = 42) (fun i => i = 283 + Int32.toNatClampNeg (wt_gf s0 108 41)) s0 q := ⟨(ks k0).2, (ks k0).1⟩
  obtain ⟨w1, w2, w3, w4, w5⟩ := v0
  have pgq := wt_PG_fr w1 w3 fq (by omega) (fun i hi h => by unfold wt_PA at hi; omega)
  have pdq := wt_PD_fr w4 fq (fun i hi h => by omega)
  have e41 : wt_gf q 108 41 = wt_gf s0 108 41 := fq.1 108 41 (by omega)
  have ei := wt_i1 (c := wt_gf q 108 41) (by rw [e41]; omega)
  obtain ⟨s1, ε1⟩ : ∃ o : wt_St, o = wt_sf q 108 41 ((wt_gf q 108 41) + (1 : Int32)) := ⟨_, rfl⟩
  rw [← ε1]
  have f1 := wt_fr_sf ε1
  have r1 := wt_Rm9 rq ε1 (show 0 ≤ ((wt_gf q 108 41) + (1 : Int32)).toInt by rw [ei, e41]; omega) (show ((wt_gf q 108 41) + (1 : Int32)).toInt ≤ 3 by rw [ei, e41]; omega)
  refine wt_T_some ⟨⟨r1, wt_M_fr (wt_M_fr w2 fq (by omega)) f1 (fun h => h), wt_PG_fr rq pgq f1 (by omega) (fun i _ h => h), wt_PD_fr pdq f1 (fun i _ h => h), fun i hi => ?_⟩, ?_⟩
  · have hi' : (i : Int) < (wt_gf s1 108 41).toInt := hi
    rw [wt_v_sf ε1, ei, e41] at hi'
    by_cases hc : i = Int32.toNatClampNeg (wt_gf s0 108 41)
    · subst hc
      exact wt_KK_eq rq ⟨kp, wt_KG_of rq pgq eq, wt_KD_of rq pdq eq⟩ (f1.1 108 39 (by omega)) (fun j _ => f1.2 j (fun h => h)) (f1.2 _ (fun h => h))
    · have kq := wt_KK_eq (σ' := q) w1 (w5 i (by omega)) (fq.1 108 39 (by omega)) (fun j hj => fq.2 j (fun h => by unfold wt_TA at hj; omega)) (fq.2 _ (fun h => by omega))
      exact wt_KK_eq rq kq (f1.1 108 39 (by omega)) (fun j _ => f1.2 j (fun h => h)) (f1.2 _ (fun h => h))
  · exact fun i k h => (f1.1 i k (by omega)).trans ((fq.1 i k (by omega)).trans (e0 i k h))
set_option maxRecDepth 100000 in
set_option maxHeartbeats 4000000 in
theorem wq_md_restore (n : Nat) (hn : 4294967297 < n) (σ : wt_St) (v : wt_IV σ) : wt_T (wp_md_restore n σ) (fun q => wt_IV q.2 ∧ ∀ i k, (i = 108 ∧ k = 1) ∨ (i = 1 ∧ k = 2) → wt_gf q.2 i k = wt_gf σ i k) := by
  unfold wp_md_restore
  have k0 : (0 : Int32).toInt = 0 := by decide
  have k1 : (1 : Int32).toInt = 1 := by decide
  obtain ⟨s0, ε0⟩ : ∃ o : wt_St, o = wt_sf σ 108 0 (0 : Int32) := ⟨_, rfl⟩
  rw [← ε0]
  have f0 := wt_fr_sf ε0
  have v0 : wt_IV s0 := wt_IV_fr v (wt_RI_fno v.1 ε0 (Or.inr (by decide +kernel))) f0 (by omega) (by omega) (fun i _ h => h)
  have e0 : ∀ i k, (i = 108 ∧ k = 1) ∨ (i = 1 ∧ k = 2) → wt_gf s0 i k = wt_gf σ i k := fun i k h => f0.1 i k (by omega)
  refine wt_T_if (fun h => wt_T_some ⟨v0, e0⟩) (fun h => ?_)
  have c := wt_nceq h
  have g41 : 0 ≤ (wt_gf s0 108 41).toInt ∧ (wt_gf s0 108 41).toInt ≤ 3 := wt_Rf9 v0.1
  have es := wt_subE (x := wt_gf s0 108 41) (y := (1 : Int32)) (by omega) (by omega)
  obtain ⟨s1, ε1⟩ : ∃ o : wt_St, o = wt_sf s0 108 41 ((wt_gf s0 108 41) - (1 : Int32)) := ⟨_, rfl⟩
  rw [← ε1]
  have f1 := wt_fr_sf ε1
  have r1 := wt_Rm9 v0.1 ε1 (show 0 ≤ ((wt_gf s0 108 41) - (1 : Int32)).toInt by omega) (show ((wt_gf s0 108 41) - (1 : Int32)).toInt ≤ 3 by omega)
  have v1 : (wt_gf s1 108 41).toInt = (wt_gf s0 108 41).toInt - 1 := by rw [wt_v_sf ε1, es, k1]
  have h41 := wt_tnI (x := wt_gf s1 108 41) (by omega)
  obtain ⟨w1, w2, w3, w4, w5⟩ := v0
  have kk : ∀ i : Nat, (i : Int) ≤ (wt_gf s1 108 41).toInt → wt_KK s1 (283 + i) := fun i hi => wt_KK_eq w1 (w5 i (by omega)) (f1.1 108 39 (by omega)) (fun j _ => f1.2 j (fun h => h)) (f1.2 _ (fun h => h))
  have kr := kk (Int32.toNatClampNeg (wt_gf s1 108 41)) (by omega)
  refine wt_T_gd (wt_ix (by omega) (by omega)) ?_
  refine wt_T_bi (wq_md_movesAll n hn (283 + Int32.toNatClampNeg (wt_gf s1 108 41)) (1 : Int32) s1 r1 (by omega) (by omega) (fun _ => kr.1)) (fun q hq => ?_)
  obtain ⟨⟨rq, -, kp, krow, -⟩, fq, eq⟩ := hq
  have n39 : ¬ wt_mF 108 39 := by unfold wt_mF; omega
  have n41 : ¬ wt_mF 108 41 := by unfold wt_mF; omega
  have ta : ∀ i, wt_TA i → ∀ j, wt_ga q i j = wt_ga s1 i j := fun i hi => fq.2 i (fun h => by unfold wt_TA at hi; unfold wt_mA at h; omega)
  have kq := wt_KK_eq (σ' := q) r1 kr (fq.1 108 39 n39) ta (krow (by omega))
  refine wt_T_some ⟨⟨rq, wt_M_fr (wt_M_fr w2 f1 (fun h => h)) fq (by unfold wt_mA; omega), wt_PG_of rq kq.2.1 eq, wt_PD_of rq kq.2.2 eq, fun i hi => ?_⟩, ?_⟩
  · rw [fq.1 108 41 n41] at hi
    exact wt_KK_eq r1 (kk i (by omega)) (fq.1 108 39 n39) ta (fq.2 _ (by unfold wt_mA; omega))
  · exact fun i k h => (fq.1 i k (by unfold wt_mF; omega)).trans ((f1.1 i k (by omega)).trans (e0 i k h))
end WTQ0
-- 81.iv.lean.txt
section WTQ1
theorem wt_IV_cls {σ σ' : wt_St} {F : Nat → Nat → Prop} {A : Nat → Prop} (h : wt_IV σ) (f : wt_fr F A σ σ') (hF : ∀ k, ¬ F 108 k) (hA : ∀ i, 108 ≤ i → ¬ A i) : wt_IV σ' := wt_IV_fr h (wt_RI_fr h.1 f hF hA) f (hF 39) (hF 41) (fun i hi => hA i (by unfold wt_PA at hi; omega))
theorem wt_IV_m {σ σ' : wt_St} {F : Nat → Nat → Prop} {A : Nat → Prop} (v : wt_IV σ) (r' : wt_RI σ') (m' : wt_M12 σ') (f : wt_fr F A σ σ') (h39 : ¬ F 108 39) (h41 : ¬ F 108 41) (hA : ∀ i, wt_PA i ∨ (283 ≤ i ∧ i < 286) → ¬ A i) : wt_IV σ' := by
  obtain ⟨v1, v2, v3, v4, v5⟩ := v
  have g41 : 0 ≤ (wt_gf σ 108 41).toInt ∧ (wt_gf σ 108 41).toInt ≤ 3 := wt_Rf9 v1
  refine ⟨r', m', wt_PG_fr v1 v3 f h39 (fun i hi => hA i (Or.inl hi)), wt_PD_fr v4 f (fun i hi => hA i (Or.inl (by unfold wt_PA; omega))), fun i hi => ?_⟩
  rw [f.1 108 41 h41] at hi
  exact wt_KK_eq v1 (v5 i hi) (f.1 108 39 h39) (fun j hj => f.2 j (hA j (Or.inl (by unfold wt_TA at hj; unfold wt_PA; omega)))) (f.2 _ (hA _ (Or.inr ⟨by omega, by omega⟩)))

theorem wt_IV_5 {σ σ' : wt_St} {F : Nat → Nat → Prop} {A : Nat → Prop} (v : wt_IV σ) (r' : wt_RI σ') (m' : wt_M12 σ') (f : wt_fr F A σ σ') (h39 : ¬ F 108 39) (h41 : (wt_gf σ' 108 41).toInt ≤ (wt_gf σ 108 41).toInt) (h5 : ∀ j, wt_ga σ' 275 j = wt_ga σ 275 j ∨ (wt_ga σ' 275 j).toInt = -1) (hA : ∀ i, wt_TA i ∨ i = 276 ∨ (278 ≤ i ∧ i < 282) ∨ (283 ≤ i ∧ i < 286) → ¬ A i) : wt_IV σ' := by
  obtain ⟨v1, v2, v3, v4, v5⟩ := v
  have g41 : 0 ≤ (wt_gf σ 108 41).toInt ∧ (wt_gf σ 108 41).toInt ≤ 3 := wt_Rf9 v1
  refine ⟨r', m', fun g hg hne => ?_, wt_PD_fr v4 f (fun i hi => hA i (by omega)), fun i hi => ?_⟩
  · rcases h5 g with e | e
    · rw [e] at hne ⊢
      have h := v3 g hg hne
      have gt : -1 ≤ (wt_ga σ 275 g).toInt ∧ (wt_ga σ 275 g).toInt ≤ 7 := wt_Ra12 v1 275 (by decide) (by decide) g
      refine ⟨by rw [f.1 108 39 h39]; exact h.1, fun l h0 h1 => ?_⟩
      rw [wt_nt_ta v1 (wt_tnle (b := 7) gt.2) (fun i hi => f.2 i (hA i (Or.inl hi)))]
      have e2 : wt_pc σ' g l = wt_pc σ g l := by
        unfold wt_pc
        rw [f.2 276 (hA 276 (Or.inr (Or.inl rfl))) g]
        have e3 : (fun k => (wt_ga σ' (278 + g) k).toInt / 13) = (fun k => (wt_ga σ (278 + g) k).toInt / 13) := by
          funext k
          rw [f.2 (278 + g) (hA _ (Or.inr (Or.inr (Or.inl ⟨by omega, by omega⟩)))) k]
        rw [e3]
      rw [e2]
      exact h.2 l h0 h1
    · exact absurd e hne
  · exact wt_KK_eq v1 (v5 i (by omega)) (f.1 108 39 h39) (fun j hj => f.2 j (hA j (Or.inl hj))) (f.2 _ (hA _ (Or.inr (Or.inr (Or.inr ⟨by omega, by omega⟩)))))
set_option maxRecDepth 100000 in
set_option maxHeartbeats 4000000 in
theorem wq_md_takesApartP (n : Nat) (hn : 4294967297 < n) (x1 : Int32) (σ : wt_St) (r0 : wt_RI σ) (p0 : 0 ≤ x1.toInt) (p1 : x1.toInt ≤ 3) : wt_T (wp_md_takesApart n x1 σ) (fun q => wt_fr (fun _ _ => False) (fun i => i = 275 ∨ i = 124) σ q ∧ wt_RI q ∧ (wt_ga q 275 (Int32.toNatClampNeg x1)).toInt = -1 ∧ ∀ j, j ≠ Int32.toNatClampNeg x1 → wt_ga q 275 j = wt_ga σ 275 j) := by
  unfold wp_md_takesApart
  have k0 : (0 : Int32).toInt = 0 := by decide
  have hx := wt_tnI p0
  have gm : 0 ≤ (wt_ga σ 276 (Int32.toNatClampNeg x1)).toInt ∧ (wt_ga σ 276 (Int32.toNatClampNeg x1)).toInt ≤ 108 := wt_Ra13 r0 276 (by decide) (by decide) _
  refine wt_T_it (fun s : Int32 × wt_St => wt_fr (fun _ _ => False) (fun i => i = 124) σ s.2 ∧ wt_RI s.2 ∧ 0 ≤ s.1.toInt) (fun s => ((wt_ga σ 276 (Int32.toNatClampNeg x1)).toInt - s.1.toInt).toNat) (fun K z hI hK => ?_) n _ ?_ ?_
  · obtain ⟨fz, rz, l1⟩ := hI
    have et := wt_tnI l1
    unfold wp_md_takesApart_B2
    rw [fz.2 276 (by decide), fz.2 (278 + Int32.toNatClampNeg x1) (by omega)]
    refine wt_T_gd (wt_ix (by omega) (by omega)) ?_
    refine wt_T_if (fun h => ?_) (fun h => ?_)
    · refine wt_T_gd (wt_ix (by omega) (by omega)) ?_
      obtain ⟨σ1, ε1⟩ : ∃ o : wt_St, o = wt_sa z.2 275 (Int32.toNatClampNeg x1) (-1 : Int32) := ⟨_, rfl⟩
      rw [← ε1]
      refine wt_T_some ⟨wt_fr.tr (wt_fr.tr wt_fr.rf fz (fun i k h => h) (fun i h => Or.inr h)) (wt_fr_sa ε1) (fun i k h => h) (fun i h => Or.inl h), wt_Rn12 rz ε1 (by decide) (by decide) (show -1 ≤ ((-1 : Int32)).toInt by rw [wt_lm1]; exact Int.le_refl _) (show ((-1 : Int32)).toInt ≤ 7 by rw [wt_lm1]; decide), (wt_ceq (wt_v_sa ε1)).trans wt_lm1, fun j hj => ?_⟩
      rw [wt_w_sa ε1 j hj, fz.2 275 (by decide)]
    · have c := wt_ncle h
      have gc : 0 ≤ (wt_ga σ (278 + Int32.toNatClampNeg x1) (Int32.toNatClampNeg z.1)).toInt ∧ (wt_ga σ (278 + Int32.toNatClampNeg x1) (Int32.toNatClampNeg z.1)).toInt ≤ 337 := wt_Ra14 r0 (278 + Int32.toNatClampNeg x1) (show 278 ≤ 278 + Int32.toNatClampNeg x1 by omega) (show 278 + Int32.toNatClampNeg x1 < 282 by omega) _
      have ei := wt_i1 (c := z.1) (by omega)
      refine wt_T_gd (wt_ix (by omega) (by omega)) ?_
      refine wt_T_gd (wt_ix (by omega) (by omega)) ?_
      refine wt_T_gd (wt_ix (by omega) (by omega)) ?_
      obtain ⟨σ1, ε1⟩ : ∃ o : wt_St, o = wt_sa z.2 124 (Int32.toNatClampNeg (wt_ga σ (278 + Int32.toNatClampNeg x1) (Int32.toNatClampNeg z.1))) (-1 : Int32) := ⟨_, rfl⟩
      rw [← ε1]
      exact hK _ ⟨wt_fr.tr fz (wt_fr_sa ε1) (fun i k h => h) (fun i h => h), wt_RI_no rz ε1 124 125 (by decide +kernel) (by decide) (by decide), (show 0 ≤ (z.1 + (1 : Int32)).toInt by omega)⟩ (show ((wt_ga σ 276 (Int32.toNatClampNeg x1)).toInt - (z.1 + (1 : Int32)).toInt).toNat < ((wt_ga σ 276 (Int32.toNatClampNeg x1)).toInt - z.1.toInt).toNat by omega)
  · exact ⟨wt_fr.rf, r0, (show 0 ≤ (0 : Int32).toInt by omega)⟩
  · show ((wt_ga σ 276 (Int32.toNatClampNeg x1)).toInt - (0 : Int32).toInt).toNat < n
    omega
set_option maxRecDepth 100000 in
set_option maxHeartbeats 4000000 in
theorem wq_md_apartP (n : Nat) (hn : 4294967297 < n) (x1 : Int32) (σ : wt_St) (v : wt_IV σ) : wt_T (wp_md_apart n x1 σ) (fun q => wt_IV q.2 ∧ ∀ i k, (i = 108 ∧ k = 1) ∨ (i = 1 ∧ k = 2) → wt_gf q.2 i k = wt_gf σ i k) := by
  unfold wp_md_apart
  have k0 : (0 : Int32).toInt = 0 := by decide
  have k1 : (1 : Int32).toInt = 1 := by decide
  obtain ⟨s0, ε0⟩ : ∃ o : wt_St, o = wt_sf σ 108 0 (0 : Int32) := ⟨_, rfl⟩
  rw [← ε0]
  have f0 := wt_fr_sf ε0
  have v0 : wt_IV s0 := wt_IV_fr v (wt_RI_fno v.1 ε0 (Or.inr (by decide +kernel))) f0 (by omega) (by omega) (fun i _ h => h)
  have B : ∀ y1 : Int32, y1.toInt ≠ 0 ∨ (0 ≤ x1.toInt ∧ x1.toInt ≤ 3) → wt_T (wp_md_apart_B19 n x1 y1 s0) (fun q => wt_IV q.2 ∧ ∀ i k, (i = 108 ∧ k = 1) ∨ (i = 1 ∧ k = 2) → wt_gf q.2 i k = wt_gf σ i k) := by
    intro y1 hy
    unfold wp_md_apart_B19
    refine wt_T_bi (wq_md_bad n hn y1 (1 : Int32) s0 v0.1 (by omega)) (fun b hb => ?_)
    obtain ⟨fb, rb, vb⟩ := hb
    have vB : wt_IV b.2 := wt_IV_fr v0 rb fb (by omega) (by omega) (fun i _ h => h)
    have eB : ∀ i k, (i = 108 ∧ k = 1) ∨ (i = 1 ∧ k = 2) → wt_gf b.2 i k = wt_gf σ i k := fun i k h => (fb.1 i k (by omega)).trans (f0.1 i k (by omega))
    refine wt_T_if (fun h => ?_) (fun h => wt_T_some ⟨vB, eB⟩)
    have c := wt_ceq h
    have hx : 0 ≤ x1.toInt ∧ x1.toInt ≤ 3 := by omega
    refine wt_T_bi (wq_md_takesApartP n hn x1 b.2 rb hx.1 hx.2) (fun q hq => ?_)
    obtain ⟨fq, rq, z1, z2⟩ := hq
    refine wt_T_gd (wt_ix (by omega) (by omega)) ?_
    refine wt_T_some ⟨wt_IV_5 vB rq (wt_M_fr vB.2.1 fq (by omega)) fq (fun h => h) (by rw [fq.1 108 41 (fun h => h)]; exact Int.le_refl _) (fun j => ?_) (fun i hi h => by unfold wt_TA at hi; omega), fun i k h => (fq.1 i k (fun h => h)).trans (eB i k h)⟩
    by_cases hj : j = Int32.toNatClampNeg x1
    · rw [hj]; exact Or.inr z1
    · exact Or.inl (z2 j hj)
  refine wt_T_bi (wq_md_isPage n hn x1 s0 v0.1) (fun q1 h1 => ?_)
  obtain ⟨e1, p1⟩ := h1
  rw [e1]
  refine wt_T_if (fun h => B _ (Or.inl (by omega))) (fun h => ?_)
  have c := wt_nceq h
  exact B _ (Or.inr (by omega))
end WTQ1
-- 83.kase.lean.txt
section WTQ2
/-! a case is read -/
def wt_kS (σ s : wt_St) : Prop := wt_RI s ∧ wt_M12 s ∧ wt_gf s 108 41 = wt_gf σ 108 41 ∧ ∀ j, wt_ga s 275 j = wt_ga σ 275 j
theorem wt_kS_fr {σ s s' : wt_St} {F : Nat → Nat → Prop} {A : Nat → Prop} (h : wt_kS σ s) (r : wt_RI s') (f : wt_fr F A s s') (m : ¬ A 111) (h1 : ¬ F 108 41) (h2 : ¬ A 275) : wt_kS σ s' := ⟨r, wt_M_fr h.2.1 f m, (f.1 108 41 h1).trans h.2.2.1, fun j => (f.2 275 h2 j).trans (h.2.2.2 j)⟩
def wt_kE (σ s : wt_St) : Prop := (wt_gf s 108 41).toInt ≤ (wt_gf σ 108 41).toInt ∧ ∀ j, wt_ga s 275 j = wt_ga σ 275 j ∨ (wt_ga s 275 j).toInt = -1
theorem wt_kS_E {σ s : wt_St} (h : wt_kS σ s) : wt_kE σ s := ⟨by rw [h.2.2.1]; exact Int.le_refl _, fun j => Or.inl (h.2.2.2 j)⟩
set_option maxRecDepth 100000 in
set_option maxHeartbeats 4000000 in
theorem wq_md_kaseH (n : Nat) (hn : 4294967297 < n) (x1 : Int32) (σ : wt_St) (r0 : wt_RI σ) (m0 : wt_M12 σ) : wt_H (wp_md_kase n x1 σ) (fun q => wt_kE σ q.2) := by
  have k0 : (0 : Int32).toInt = 0 := by decide
  have k1 : (1 : Int32).toInt = 1 := by decide
  have g41 : 0 ≤ (wt_gf σ 108 41).toInt ∧ (wt_gf σ 108 41).toInt ≤ 3 := wt_R_gf r0 9 rfl
  have B70 : ∀ z, wt_kS σ z → wt_H (wp_md_kase_B70 n z) (fun q => wt_kE σ q.2) := by
    intro z Sz
    unfold wp_md_kase_B70
    obtain ⟨s1, ε1⟩ : ∃ o : wt_St, o = wt_sf z 108 3 (wt_gf z 108 6) := ⟨_, rfl⟩
    rw [← ε1]
    have f1 := wt_fr_sf ε1
    have S1 : wt_kS σ s1 := wt_kS_fr Sz (wt_RI_fno Sz.1 ε1 (Or.inr (by decide))) f1 (fun h => h) (by (try dsimp only); omega) (fun h => h)
    refine wt_H_if (fun h => ?_) (fun h => wt_H_some (wt_kS_E S1))
    refine wt_H_bi (wq_md_takesCase n hn s1 S1.1 S1.2.1) (fun t ht => ?_)
    obtain ⟨ft, rt, mt⟩ := ht
    have e275 : ∀ j, wt_ga t 275 j = wt_ga σ 275 j := fun j => (ft.2 275 (by (try dsimp only); omega) j).trans (S1.2.2.2 j)
    refine wt_H_it (fun s : Int32 × wt_St => wt_RI s.2 ∧ ∀ j, wt_ga s.2 275 j = wt_ga σ 275 j ∨ (wt_ga s.2 275 j).toInt = -1) (fun K s I hK => ?_) n _ ⟨rt, fun j => Or.inl (e275 j)⟩
    obtain ⟨rs, hs⟩ := I
    unfold wp_md_kase_B99
    refine wt_H_if (fun h4 => ?_) (fun h4 => ?_)
    · obtain ⟨s2, ε2⟩ : ∃ o : wt_St, o = wt_sf s.2 108 41 (0 : Int32) := ⟨_, rfl⟩
      rw [← ε2]
      have f2 := wt_fr_sf ε2
      refine wt_H_bi (wq_md_allPieces n hn s2 (wt_RI_fin rs ε2 9 rfl rfl (show 0 ≤ ((0 : Int32)).toInt by omega) (show ((0 : Int32)).toInt ≤ 3 by omega))) (fun a ha => ?_)
      refine wt_H_some ?_
      show wt_kE σ a.2
      rw [ha]
      refine ⟨?_, fun j => ?_⟩
      · rw [wt_v_sf ε2, k0]; exact g41.1
      · rw [f2.2 275 (fun h => h)]; exact hs j
    · refine wt_H_gd (fun g => ?_)
      obtain ⟨s2, ε2⟩ : ∃ o : wt_St, o = wt_sa s.2 275 (Int32.toNatClampNeg s.1) (-1 : Int32) := ⟨_, rfl⟩
      rw [← ε2]
      refine hK _ ⟨wt_RI_in rs ε2 12 rfl (by decide) (by decide) (show -1 ≤ ((-1 : Int32)).toInt by rw [wt_lm1]; exact Int.le_refl _) (show ((-1 : Int32)).toInt ≤ 7 by rw [wt_lm1]; decide), fun j => ?_⟩
      show wt_ga s2 275 j = wt_ga σ 275 j ∨ (wt_ga s2 275 j).toInt = -1
      by_cases hj : j = Int32.toNatClampNeg s.1
      · right; rw [hj]; exact (wt_ceq (wt_v_sa ε2)).trans wt_lm1
      · rw [wt_w_sa ε2 j hj]; exact hs j
  unfold wp_md_kase
  obtain ⟨s0, ε0⟩ : ∃ o : wt_St, o = wt_sf σ 108 0 (0 : Int32) := ⟨_, rfl⟩
  rw [← ε0]
  have f0 := wt_fr_sf ε0
  have S0 : wt_kS σ s0 := ⟨wt_RI_fno r0 ε0 (Or.inr (by decide)), wt_M_sf m0 ε0, f0.1 108 41 (by (try dsimp only); omega), f0.2 275 (fun h => h)⟩
  have B : ∀ y1 : Int32, y1.toInt ≠ 0 ∨ (0 ≤ x1.toInt ∧ x1.toInt ≤ 500) → wt_H (wp_md_kase_B23 n x1 y1 s0) (fun q => wt_kE σ q.2) := by
    intro y1 hy
    unfold wp_md_kase_B23
    refine wt_H_bi (wq_md_bad n hn y1 (1 : Int32) s0 S0.1 (by omega)) (fun b hb => ?_)
    obtain ⟨fb, rb, vb⟩ := hb
    have SB : wt_kS σ b.2 := wt_kS_fr S0 rb fb (fun h => h) (by (try dsimp only); omega) (fun h => h)
    refine wt_H_if (fun h => ?_) (fun h => wt_H_some (wt_kS_E SB))
    have c := wt_ceq h
    refine wt_H_bi (wq_md_starts n hn x1 b.2 rb (by omega) (by omega)) (fun q5 h5 => ?_)
    obtain ⟨f5, r5, -⟩ := h5
    have S5 : wt_kS σ q5 := wt_kS_fr SB r5 f5 (fun h => h) (by (try dsimp only); omega) (fun h => h)
    refine wt_H_bi (wq_md_clearsCase n hn q5 r5) (fun q6 h6 => ?_)
    obtain ⟨f6, r6⟩ := h6
    have S6 : wt_kS σ q6 := wt_kS_fr S5 r6 f6 (by (try dsimp only); omega) (by (try dsimp only); omega) (by (try dsimp only); omega)
    refine wt_H_it (fun s : wt_St => wt_kS σ s) (fun K z Sz hK => ?_) n q6 S6
    unfold wp_md_kase_B41
    refine wt_H_if (fun h1 => ?_) (fun h1 => B70 z Sz)
    refine wt_H_if (fun h2 => B70 z Sz) (fun h2 => ?_)
    refine wt_H_bi (wq_md_clause n hn z Sz.1) (fun q7 h7 => ?_)
    obtain ⟨f7, r7, -⟩ := h7
    have S7 : wt_kS σ q7 := wt_kS_fr Sz r7 f7 (by (try dsimp only); omega) (by (try dsimp only); omega) (by (try dsimp only); omega)
    refine wt_H_bi (wq_md_blanks n hn q7 r7) (fun q8 h8 => ?_)
    obtain ⟨f8, r8, -⟩ := h8
    exact hK _ (wt_kS_fr S7 r8 f8 (fun h => h) (by (try dsimp only); omega) (fun h => h))
  refine wt_H_bi (wq_md_in n hn x1 (0 : Int32) (wt_gf s0 108 1) s0 S0.1) (fun q1 h1 => ?_)
  obtain ⟨e1, p1⟩ := h1
  rw [e1]
  refine wt_H_if (fun h => B _ (Or.inl (by omega))) (fun h => ?_)
  have c := wt_nceq h
  have g1 : 0 ≤ (wt_gf s0 108 1).toInt ∧ (wt_gf s0 108 1).toInt ≤ 500 := wt_R_gf S0.1 0 rfl
  exact B _ (Or.inr (by omega))
end WTQ2
-- 84.text.lean.txt
section WTQ3
/-! a text is read -/
def wt_xS (σ s : wt_St) : Prop := wt_RI s ∧ wt_fr (fun i k => i = 108 ∧ k ≠ 39) (fun i => i = 274) σ s
theorem wt_xS_fr {σ s s' : wt_St} {F : Nat → Nat → Prop} {A : Nat → Prop} (h : wt_xS σ s) (r : wt_RI s') (f : wt_fr F A s s') (hF : ∀ i k, F i k → i = 108 ∧ k ≠ 39) (hA : ∀ i, A i → i = 274) : wt_xS σ s' := ⟨r, wt_fr.tr h.2 f hF hA⟩
def wt_xE (σ s : wt_St) : Prop := (wt_gf σ 108 39).toInt ≤ (wt_gf s 108 39).toInt ∧ ∀ t : Nat, (t : Int) < (wt_gf σ 108 39).toInt → wt_ga s 253 t = wt_ga σ 253 t ∧ ∀ j, wt_ga s (255 + t) j = wt_ga σ (255 + t) j
theorem wt_xS_E {σ s : wt_St} (h : wt_xS σ s) (g : (wt_gf σ 108 39).toInt ≤ 8) : wt_xE σ s := ⟨by rw [h.2.1 108 39 (fun z => z.2 rfl)]; exact Int.le_refl _, fun t ht => ⟨h.2.2 253 (by (try dsimp only); omega) t, fun j => h.2.2 (255 + t) (by (try dsimp only); omega) j⟩⟩
set_option maxRecDepth 100000 in
set_option maxHeartbeats 4000000 in
theorem wq_md_textH (n : Nat) (hn : 4294967297 < n) (x1 : Int32) (σ : wt_St) (r0 : wt_RI σ) : wt_H (wp_md_text n x1 σ) (fun q => wt_xE σ q.2) := by
  have k0 : (0 : Int32).toInt = 0 := by decide
  have k1 : (1 : Int32).toInt = 1 := by decide
  have k2 : (2 : Int32).toInt = 2 := by decide
  have k3 : (3 : Int32).toInt = 3 := by decide
  have g39 : 0 ≤ (wt_gf σ 108 39).toInt ∧ (wt_gf σ 108 39).toInt ≤ 8 := wt_Rf7 r0
  have n39 := wt_tnI g39.1
  have B195 : ∀ (x2 : Int32) (z : wt_St), wt_xS σ z → wt_H (wp_md_text_B195 n x2 z) (fun q => wt_xE σ q.2) := by
    intro x2 z Sz
    unfold wp_md_text_B195
    obtain ⟨s1, ε1⟩ : ∃ o : wt_St, o = wt_sf z 108 3 (wt_gf z 108 6) := ⟨_, rfl⟩
    rw [← ε1]
    have S1 : wt_xS σ s1 := wt_xS_fr Sz (wt_RI_fno Sz.1 ε1 (Or.inr (by decide +kernel))) (wt_fr_sf ε1) (fun i k h => by (try dsimp only at h); omega) (fun i h => h.elim)
    have e1 : wt_gf s1 108 39 = wt_gf σ 108 39 := S1.2.1 108 39 (fun z => z.2 rfl)
    refine wt_H_if (fun h => ?_) (fun h => wt_H_some (wt_xS_E S1 g39.2))
    rw [e1]
    refine wt_H_gd (fun g => ?_)
    have gi := wt_ixn g
    obtain ⟨s2, ε2⟩ : ∃ o : wt_St, o = wt_sa s1 253 (Int32.toNatClampNeg (wt_gf σ 108 39)) x2 := ⟨_, rfl⟩
    rw [← ε2]
    have f2 := wt_fr_sa ε2
    refine wt_H_it (fun s : Int32 × wt_St => wt_gf s.2 108 39 = wt_gf σ 108 39 ∧ ∀ t : Nat, (t : Int) < (wt_gf σ 108 39).toInt → wt_ga s.2 253 t = wt_ga σ 253 t ∧ ∀ j, wt_ga s.2 (255 + t) j = wt_ga σ (255 + t) j) (fun K s I hK => ?_) n _ ⟨(f2.1 108 39 (fun h => h)).trans e1, fun t ht => ⟨?_, fun j => ?_⟩⟩
    · obtain ⟨i1, i2⟩ := I
      unfold wp_md_text_B230
      rw [i1]
      refine wt_H_if (fun h => ?_) (fun h => ?_)
      · obtain ⟨s3, ε3⟩ : ∃ o : wt_St, o = wt_sf s.2 108 39 ((wt_gf σ 108 39) + (1 : Int32)) := ⟨_, rfl⟩
        rw [← ε3]
        have f3 := wt_fr_sf ε3
        have ei := wt_i1 (c := wt_gf σ 108 39) (by omega)
        refine wt_H_some ⟨?_, fun t ht => ⟨?_, fun j => ?_⟩⟩
        · show (wt_gf σ 108 39).toInt ≤ (wt_gf s3 108 39).toInt
          rw [wt_v_sf ε3, ei]
          omega
        · show wt_ga s3 253 t = wt_ga σ 253 t
          rw [f3.2 253 (fun h => h)]
          exact (i2 t ht).1
        · show wt_ga s3 (255 + t) j = wt_ga σ (255 + t) j
          rw [f3.2 (255 + t) (fun h => h)]
          exact (i2 t ht).2 j
      · refine wt_H_gd (fun _ => ?_)
        refine wt_H_gd (fun _ => ?_)
        refine wt_H_gd (fun _ => ?_)
        obtain ⟨s3, ε3⟩ : ∃ o : wt_St, o = wt_sa s.2 (255 + Int32.toNatClampNeg (wt_gf σ 108 39)) (Int32.toNatClampNeg s.1) (wt_ga s.2 274 (Int32.toNatClampNeg s.1)) := ⟨_, rfl⟩
        rw [← ε3]
        have f3 := wt_fr_sa ε3
        refine hK _ ⟨(f3.1 108 39 (fun h => h)).trans i1, fun t ht => ⟨?_, fun j => ?_⟩⟩
        · show wt_ga s3 253 t = wt_ga σ 253 t
          rw [f3.2 253 (by (try dsimp only); omega)]
          exact (i2 t ht).1
        · show wt_ga s3 (255 + t) j = wt_ga σ (255 + t) j
          rw [f3.2 (255 + t) (by (try dsimp only); omega)]
          exact (i2 t ht).2 j
    · show wt_ga s2 253 t = wt_ga σ 253 t
      rw [wt_w_sa ε2 t (by omega)]
      exact S1.2.2 253 (by (try dsimp only); omega) t
    · show wt_ga s2 (255 + t) j = wt_ga σ (255 + t) j
      rw [f2.2 (255 + t) (by (try dsimp only); omega)]
      exact S1.2.2 (255 + t) (by (try dsimp only); omega) j
  have B157 : ∀ (K : Int32 × wt_St → Option (Int32 × wt_St)) (x2 x3 x4 : Int32) (z : wt_St), wt_xS σ z → ((wt_gf z 108 5).toInt = 0 → 0 ≤ x4.toInt ∧ x4.toInt ≤ 59 ∧ 0 ≤ x3.toInt ∧ (wt_gf z 108 4).toInt + x3.toInt ≤ 500) → (∀ s', wt_xS σ s'.2 → wt_H (K s') (fun q => wt_xE σ q.2)) → wt_H (wp_md_text_B157 n x2 x3 x4 K z) (fun q => wt_xE σ q.2) := by
    intro K x2 x3 x4 z Sz hz hK
    unfold wp_md_text_B157
    refine wt_H_if (fun h => ?_) (fun h => B195 x2 z Sz)
    have c := wt_ceq h
    have hz2 := hz (by omega)
    refine wt_H_gd (fun g => ?_)
    obtain ⟨s1, ε1⟩ : ∃ o : wt_St, o = wt_sa z 274 (Int32.toNatClampNeg x2) x4 := ⟨_, rfl⟩
    rw [← ε1]
    have f1 := wt_fr_sa ε1
    have S1 : wt_xS σ s1 := wt_xS_fr Sz (wt_Rn11 Sz.1 ε1 (by decide) (by decide) (show 0 ≤ x4.toInt by omega) (show x4.toInt ≤ 59 by omega)) f1 (fun i k h => h.elim) (fun i h => h)
    have e4 : wt_gf s1 108 4 = wt_gf z 108 4 := f1.1 108 4 (fun h => h)
    have g4 : 0 ≤ (wt_gf z 108 4).toInt ∧ (wt_gf z 108 4).toInt ≤ 500 := wt_Rf2 Sz.1
    rw [e4]
    have ea := wt_addE (x := wt_gf z 108 4) (y := x3) (by omega) (by omega)
    obtain ⟨s2, ε2⟩ : ∃ o : wt_St, o = wt_sf s1 108 4 ((wt_gf z 108 4) + x3) := ⟨_, rfl⟩
    rw [← ε2]
    have S2 : wt_xS σ s2 := wt_xS_fr S1 (wt_Rm2 S1.1 ε2 (show 0 ≤ ((wt_gf z 108 4) + x3).toInt by omega) (show ((wt_gf z 108 4) + x3).toInt ≤ 500 by omega)) (wt_fr_sf ε2) (fun i k h => by (try dsimp only at h); omega) (fun i h => h.elim)
    refine wt_H_bi (wq_md_blanks n hn s2 S2.1) (fun q8 h8 => ?_)
    obtain ⟨f8, r8, -⟩ := h8
    exact hK _ (wt_xS_fr S2 r8 f8 (fun i k h => by (try dsimp only at h); omega) (fun i h => h.elim))
  have B84 : ∀ (K : Int32 × wt_St → Option (Int32 × wt_St)) (x2 : Int32) (z : wt_St), wt_xS σ z → (∀ s', wt_xS σ s'.2 → wt_H (K s') (fun q => wt_xE σ q.2)) → wt_H (wp_md_text_B84 n x2 K z) (fun q => wt_xE σ q.2) := by
    intro K x2 z Sz hK
    unfold wp_md_text_B84
    refine wt_H_bi (wq_md_lettersHere n hn z Sz.1) (fun a ha => ?_)
    obtain ⟨fa, ra, ⟨p1, p2⟩, p3, -⟩ := ha
    have Sa : wt_xS σ a.2 := wt_xS_fr Sz ra fa (fun i k h => by (try dsimp only at h); omega) (fun i h => h.elim)
    have g28 : 0 ≤ (wt_gf a.2 108 28).toInt ∧ (wt_gf a.2 108 28).toInt ≤ 60 := wt_Rf6 ra
    have g2 : 0 ≤ (wt_gf a.2 108 2).toInt ∧ (wt_gf a.2 108 2).toInt ≤ 500 := wt_Rf1 ra
    have g4 : 0 ≤ (wt_gf a.2 108 4).toInt ∧ (wt_gf a.2 108 4).toInt ≤ 500 := wt_Rf2 ra
    refine wt_H_bi (wq_md_wordOf_192_126 n hn a.1 (wt_gf a.2 108 28) a.2 ra (by omega)) (fun b hb => ?_)
    obtain ⟨eb, pb⟩ := hb
    rw [eb]
    have W : ∀ (y y2 x5 : Int32), 0 < y.toInt ∧ y.toInt ≤ 3 → wt_H ((wp_md_wrong n y y2 a.2).bind fun q25 => wp_md_text_B157 n x2 a.1 x5 K q25) (fun q => wt_xE σ q.2) := by
      intro y y2 x5 hy
      refine wt_H_bi (wq_md_wrong n hn y y2 a.2 ra hy.1 hy.2) (fun w hw => ?_)
      obtain ⟨fw, rw', pw⟩ := hw
      exact B157 K x2 a.1 x5 w (wt_xS_fr Sa rw' fw (fun i k h => by (try dsimp only at h); omega) (fun i h => h.elim)) (fun h => absurd h pw) hK
    refine wt_H_if (fun h1 => W _ _ _ (by omega)) (fun h1 => ?_)
    refine wt_H_if (fun h2 => W _ _ _ (by omega)) (fun h2 => ?_)
    refine wt_H_if (fun h3 => W _ _ _ (by omega)) (fun h3 => ?_)
    have c1 := wt_nceq h1
    have c2 := wt_nceq h2
    rw [wt_lm1] at c2
    exact B157 K x2 a.1 b.1 a.2 Sa (fun _ => by omega) hK
  unfold wp_md_text
  obtain ⟨s0, ε0⟩ : ∃ o : wt_St, o = wt_sf σ 108 0 (0 : Int32) := ⟨_, rfl⟩
  rw [← ε0]
  have f0 := wt_fr_sf ε0
  have S0 : wt_xS σ s0 := ⟨wt_RI_fno r0 ε0 (Or.inr (by decide +kernel)), wt_fr.tr wt_fr.rf f0 (fun i k h => by (try dsimp only at h); omega) (fun i h => h.elim)⟩
  have B : ∀ y1 : Int32, y1.toInt ≠ 0 ∨ (0 ≤ x1.toInt ∧ x1.toInt ≤ 500) → wt_H (wp_md_text_B30 n x1 y1 s0) (fun q => wt_xE σ q.2) := by
    intro y1 hy
    unfold wp_md_text_B30
    refine wt_H_bi (wq_md_bad n hn y1 (1 : Int32) s0 S0.1 (by omega)) (fun b hb => ?_)
    obtain ⟨fb, rb, vb⟩ := hb
    have SB : wt_xS σ b.2 := wt_xS_fr S0 rb fb (fun i k h => by (try dsimp only at h); omega) (fun i h => h.elim)
    refine wt_H_if (fun h => ?_) (fun h => wt_H_some (wt_xS_E SB g39.2))
    have c := wt_ceq h
    refine wt_H_bi (wq_md_starts n hn x1 b.2 rb (by omega) (by omega)) (fun q5 h5 => ?_)
    obtain ⟨f5, r5, -⟩ := h5
    have S5 : wt_xS σ q5 := wt_xS_fr SB r5 f5 (fun i k h => by (try dsimp only at h); omega) (fun i h => h.elim)
    obtain ⟨s6, ε6⟩ : ∃ o : wt_St, o = wt_sf q5 108 3 (-1 : Int32) := ⟨_, rfl⟩
    rw [← ε6]
    have S6 : wt_xS σ s6 := wt_xS_fr S5 (wt_RI_fno S5.1 ε6 (Or.inr (by decide +kernel))) (wt_fr_sf ε6) (fun i k h => by (try dsimp only at h); omega) (fun i h => h.elim)
    refine wt_H_if (fun h => wt_H_some (wt_xS_E S6 g39.2)) (fun h => ?_)
    refine wt_H_it (fun s : Int32 × wt_St => wt_xS σ s.2) (fun K z Sz hK => ?_) n _ S6
    unfold wp_md_text_B62
    refine wt_H_if (fun h1 => ?_) (fun h1 => B195 z.1 z.2 Sz)
    refine wt_H_if (fun h2 => B84 K z.1 z.2 Sz hK) (fun h2 => ?_)
    exact wt_H_if (fun h2 => B84 K z.1 z.2 Sz hK) (fun h2 => B195 z.1 z.2 Sz)
  refine wt_H_bi (wq_md_in n hn x1 (0 : Int32) (wt_gf s0 108 1) s0 S0.1) (fun q1 h1 => ?_)
  obtain ⟨e1, p1⟩ := h1
  rw [e1]
  unfold wp_md_text_B25
  refine wt_H_if (fun h => B _ (Or.inl (by omega))) (fun h => ?_)
  have c := wt_nceq h
  have g1 : 0 ≤ (wt_gf s0 108 1).toInt ∧ (wt_gf s0 108 1).toInt ≤ 500 := wt_Rf0 S0.1
  exact wt_H_if (fun h => B _ (Or.inr (by omega))) (fun h => B _ (Or.inl (by omega)))
theorem wt_nt_lt {σ σ' : wt_St} {t : Nat} {l : Int} (r : wt_RI σ) (ht : t ≤ 7) (h1 : wt_ga σ' 253 t = wt_ga σ 253 t) (h2 : ∀ j, wt_ga σ' (255 + t) j = wt_ga σ (255 + t) j) (h3 : ∀ i, i = 126 ∨ (193 ≤ i ∧ i < 253) → ∀ j, wt_ga σ' i j = wt_ga σ i j) : wt_nt σ' t l = wt_nt σ t l := by
  unfold wt_nt
  rw [h1]
  have e : (fun k => wt_nw σ' (Int32.toNatClampNeg (wt_ga σ' (255 + t) k)) l) = (fun k => wt_nw σ (Int32.toNatClampNeg (wt_ga σ (255 + t) k)) l) := by
    funext k
    have g := wt_Ra10 r (255 + t) (show 255 ≤ 255 + t by omega) (show 255 + t < 263 by omega) k
    rw [h2 k]
    have gw := wt_tnle (b := 59) g.2
    unfold wt_nw
    rw [h3 126 (Or.inl rfl)]
    have e2 : (fun k' => (wt_ga σ' (193 + Int32.toNatClampNeg (wt_ga σ (255 + t) k)) k').toInt) = (fun k' => (wt_ga σ (193 + Int32.toNatClampNeg (wt_ga σ (255 + t) k)) k').toInt) := by
      funext k'
      rw [h3 _ (Or.inr ⟨by omega, by omega⟩) k']
    rw [e2]
  rw [e]
set_option maxHeartbeats 4000000 in
theorem wt_IV_x {σ σ' : wt_St} {F : Nat → Nat → Prop} {A : Nat → Prop} (v : wt_IV σ) (r' : wt_RI σ') (f : wt_fr F A σ σ') (x : wt_xE σ σ') (h41 : ¬ F 108 41) (hA : ∀ i, i = 126 ∨ (193 ≤ i ∧ i < 253) ∨ i = 275 ∨ i = 276 ∨ (278 ≤ i ∧ i < 282) ∨ i = 111 ∨ (283 ≤ i ∧ i < 286) → ¬ A i) : wt_IV σ' := by
  obtain ⟨v1, v2, v3, v4, v5⟩ := v
  have g41 : 0 ≤ (wt_gf σ 108 41).toInt ∧ (wt_gf σ 108 41).toInt ≤ 3 := wt_Rf9 v1
  have h3 : ∀ i, i = 126 ∨ (193 ≤ i ∧ i < 253) → ∀ j, wt_ga σ' i j = wt_ga σ i j := fun i hi => f.2 i (hA i (by omega))
  have hnt : ∀ (t : Int32) (l : Int), t.toInt < (wt_gf σ 108 39).toInt → -1 ≤ t.toInt → t.toInt ≠ -1 → t.toInt ≤ 7 → wt_nt σ' (Int32.toNatClampNeg t) l = wt_nt σ (Int32.toNatClampNeg t) l := by
    intro t l h1 h2 h4 h5
    have e := wt_tnI (x := t) (by omega)
    have hx := x.2 (Int32.toNatClampNeg t) (by omega)
    exact wt_nt_lt v1 (by omega) hx.1 hx.2 h3
  refine ⟨r', wt_M_fr v2 f (hA 111 (by omega)), fun g hg hne => ?_, wt_PD_fr v4 f (fun i hi => hA i (by omega)), fun i hi => ?_⟩
  · have e275 := f.2 275 (hA 275 (by omega)) g
    rw [e275] at hne ⊢
    have h := v3 g hg hne
    have gt : -1 ≤ (wt_ga σ 275 g).toInt ∧ (wt_ga σ 275 g).toInt ≤ 7 := wt_Ra12 v1 275 (by decide) (by decide) g
    refine ⟨Int.lt_of_lt_of_le h.1 x.1, fun l h0 h1 => ?_⟩
    rw [hnt _ l h.1 gt.1 hne gt.2]
    have e2 : wt_pc σ' g l = wt_pc σ g l := by
      unfold wt_pc
      rw [f.2 276 (hA 276 (by omega)) g]
      have e3 : (fun k => (wt_ga σ' (278 + g) k).toInt / 13) = (fun k => (wt_ga σ (278 + g) k).toInt / 13) := by
        funext k
        rw [f.2 (278 + g) (hA _ (by omega)) k]
      rw [e3]
    rw [e2]
    exact h.2 l h0 h1
  · rw [f.1 108 41 h41] at hi
    obtain ⟨q1, q2, q3⟩ := v5 i hi
    have ef : ∀ j, wt_ga σ' (283 + i) j = wt_ga σ (283 + i) j := f.2 _ (hA _ (by omega))
    refine ⟨fun j hj => by rw [ef]; exact q1 j hj, fun g hg hne => ?_, fun g hg k k' h1 h2 => ?_⟩
    · simp only [ef] at hne ⊢
      have h := q2 g hg hne
      have hr := (q1 (678 + 110 * g) (by omega)).2.2.1 (by omega) (by omega) (by omega)
      refine ⟨Int.lt_of_lt_of_le h.1 x.1, fun l h0 h1 => ?_⟩
      rw [hnt _ l h.1 hr.1 hne hr.2]
      exact h.2 l h0 h1
    · simp only [ef] at h2 ⊢
      exact q3 g hg k k' h1 h2
end WTQ3
-- 85.tongue.lean.txt
section WTQ4
/-! a tongue is read: either nothing of the texts and pages has changed, or no page stands and no image is kept -/
def wt_gS (σ s : wt_St) : Prop := wt_RI s ∧ wt_fr (fun i k => i = 108 ∧ k ≠ 39 ∧ k ≠ 41) (fun i => ¬ wt_PA i) σ s
theorem wt_gS_fr {σ s s' : wt_St} {F : Nat → Nat → Prop} {A : Nat → Prop} (h : wt_gS σ s) (r : wt_RI s') (f : wt_fr F A s s') (hF : ∀ i k, F i k → i = 108 ∧ k ≠ 39 ∧ k ≠ 41) (hA : ∀ i, A i → ¬ wt_PA i) : wt_gS σ s' := ⟨r, wt_fr.tr h.2 f hF hA⟩
def wt_gE (σ s : wt_St) : Prop := ((∀ i, wt_PA i → ∀ j, wt_ga s i j = wt_ga σ i j) ∧ wt_gf s 108 39 = wt_gf σ 108 39 ∧ wt_gf s 108 41 = wt_gf σ 108 41) ∨ ((∀ g, g < 4 → (wt_ga s 275 g).toInt = -1) ∧ (wt_gf s 108 41).toInt = 0)
theorem wt_gS_E {σ s : wt_St} (h : wt_gS σ s) : wt_gE σ s := Or.inl ⟨fun i hi => h.2.2 i (fun z => z hi), h.2.1 108 39 (fun z => z.2.1 rfl), h.2.1 108 41 (fun z => z.2.2 rfl)⟩
set_option maxRecDepth 100000 in
set_option maxHeartbeats 4000000 in
theorem wq_md_tongueH (n : Nat) (hn : 4294967297 < n) (x1 : Int32) (σ : wt_St) (r0 : wt_RI σ) : wt_H (wp_md_tongue n x1 σ) (fun q => wt_gE σ q.2) := by
  have k0 : (0 : Int32).toInt = 0 := by decide
  have k1 : (1 : Int32).toInt = 1 := by decide
  have k4 : (4 : Int32).toInt = 4 := by decide
  have k44 : (44 : Int32).toInt = 44 := by decide
  have k59 : (59 : Int32).toInt = 59 := by decide
  have B272 : ∀ (z : wt_St), wt_RI z → (wt_gf z 108 41).toInt = 0 → wt_H (wt_it (wp_md_tongue_B272 n) n ((0 : Int32), z)) (fun q => wt_gE σ q.2) := by
    intro z rz hz
    refine wt_H_it (fun s : Int32 × wt_St => wt_RI s.2 ∧ (wt_gf s.2 108 41).toInt = 0 ∧ 0 ≤ s.1.toInt ∧ ∀ g : Nat, (g : Int) < s.1.toInt → (wt_ga s.2 275 g).toInt = -1) (fun K s I hK => ?_) n _ ⟨rz, hz, (show 0 ≤ ((0 : Int32)).toInt by omega), fun g hg => absurd (show (g : Int) < ((0 : Int32)).toInt from hg) (by omega)⟩
    obtain ⟨i1, i2, i3, i4⟩ := I
    unfold wp_md_tongue_B272
    refine wt_H_if (fun h => ?_) (fun h => ?_)
    · have c := wt_cle h
      exact wt_H_some (Or.inr ⟨fun g hg => i4 g (by omega), i2⟩)
    · have c := wt_ncle h
      have ei := wt_i1 (c := s.1) (by omega)
      have en := wt_tnI i3
      refine wt_H_gd (fun _ => ?_)
      unfold wp_md_tongue_B292
      refine wt_H_if (fun h2 => ?_) (fun h2 => ?_)
      · refine hK _ ⟨i1, i2, (show 0 ≤ (s.1 + (1 : Int32)).toInt by omega), fun g hg => ?_⟩
        have hg' : (g : Int) < (s.1 + (1 : Int32)).toInt := hg
        show (wt_ga s.2 275 g).toInt = -1
        by_cases hc : g = Int32.toNatClampNeg s.1
        · rw [hc]; exact (wt_ceq h2).trans wt_lm1
        · exact i4 g (by omega)
      · refine wt_H_bi (wq_md_takesApartP n hn s.1 s.2 i1 i3 (by omega)) (fun t ht => ?_)
        obtain ⟨ft, rt, z1, z2⟩ := ht
        refine hK _ ⟨rt, ?_, (show 0 ≤ (s.1 + (1 : Int32)).toInt by omega), fun g hg => ?_⟩
        · show (wt_gf t 108 41).toInt = 0
          rw [ft.1 108 41 (fun h => h)]
          exact i2
        · have hg' : (g : Int) < (s.1 + (1 : Int32)).toInt := hg
          show (wt_ga t 275 g).toInt = -1
          by_cases hc : g = Int32.toNatClampNeg s.1
          · rw [hc]; exact z1
          · rw [z2 g hc]; exact i4 g (by omega)
  have B175 : ∀ (z : wt_St), wt_RI z → wt_H (wt_it (wp_md_tongue_B175 n) n ((0 : Int32), z)) (fun q => wt_gE σ q.2) := by
    intro z rz
    refine wt_H_it (fun s : Int32 × wt_St => wt_RI s.2) (fun K s I hK => ?_) n _ rz
    unfold wp_md_tongue_B175
    refine wt_H_if (fun h => ?_) (fun h => ?_)
    · obtain ⟨s1, ε1⟩ : ∃ o : wt_St, o = wt_sf s.2 108 39 (0 : Int32) := ⟨_, rfl⟩
      rw [← ε1]
      have r1 := wt_Rm7 I ε1 (show 0 ≤ ((0 : Int32)).toInt by omega) (show ((0 : Int32)).toInt ≤ 8 by omega)
      obtain ⟨s2, ε2⟩ : ∃ o : wt_St, o = wt_sf s1 108 40 (0 : Int32) := ⟨_, rfl⟩
      rw [← ε2]
      have r2 := wt_Rm8 r1 ε2 (show 0 ≤ ((0 : Int32)).toInt by omega) (show ((0 : Int32)).toInt ≤ 10 by omega)
      obtain ⟨s3, ε3⟩ : ∃ o : wt_St, o = wt_sf s2 108 41 (0 : Int32) := ⟨_, rfl⟩
      rw [← ε3]
      have r3 := wt_Rm9 r2 ε3 (show 0 ≤ ((0 : Int32)).toInt by omega) (show ((0 : Int32)).toInt ≤ 3 by omega)
      exact B272 s3 r3 ((wt_ceq (wt_v_sf ε3)).trans k0)
    · refine wt_H_gd (fun g1 => ?_)
      have gi := wt_ixn g1
      have en := wt_tnI gi.1
      refine wt_H_gd (fun _ => ?_)
      refine wt_H_gd (fun _ => ?_)
      refine wt_H_gd (fun _ => ?_)
      refine wt_H_gd (fun _ => ?_)
      refine wt_H_gd (fun _ => ?_)
      have a5 : 0 ≤ (wt_ga s.2 125 (Int32.toNatClampNeg s.1)).toInt ∧ (wt_ga s.2 125 (Int32.toNatClampNeg s.1)).toInt ≤ 9 := wt_Ra5 I 125 (by decide) (by decide) _
      obtain ⟨s1, ε1⟩ : ∃ o : wt_St, o = wt_sa s.2 126 (Int32.toNatClampNeg s.1) (wt_ga s.2 125 (Int32.toNatClampNeg s.1)) := ⟨_, rfl⟩
      rw [← ε1]
      have r1 := wt_Rn5 I ε1 (by decide) (by decide) a5.1 a5.2
      have a6 : 0 ≤ (wt_ga s1 127 (Int32.toNatClampNeg s.1)).toInt ∧ (wt_ga s1 127 (Int32.toNatClampNeg s.1)).toInt ≤ 3 := wt_Ra6 r1 127 (by decide) (by decide) _
      obtain ⟨s2, ε2⟩ : ∃ o : wt_St, o = wt_sa s1 128 (Int32.toNatClampNeg s.1) (wt_ga s1 127 (Int32.toNatClampNeg s.1)) := ⟨_, rfl⟩
      rw [← ε2]
      have r2 := wt_Rn6 r1 ε2 (by decide) (by decide) a6.1 a6.2
      obtain ⟨s3, ε3⟩ : ∃ o : wt_St, o = wt_sa s2 130 (Int32.toNatClampNeg s.1) (wt_ga s2 129 (Int32.toNatClampNeg s.1)) := ⟨_, rfl⟩
      rw [← ε3]
      have r3 := wt_RI_no r2 ε3 129 132 (by decide +kernel) (by decide) (by decide)
      refine wt_H_it (fun s : Int32 × wt_St => wt_RI s.2) (fun K2 s' I' hK2 => ?_) n _ r3
      unfold wp_md_tongue_B221
      refine wt_H_if (fun h2 => hK _ I') (fun h2 => ?_)
      refine wt_H_gd (fun _ => ?_)
      refine wt_H_gd (fun _ => ?_)
      refine wt_H_gd (fun _ => ?_)
      refine wt_H_gd (fun _ => ?_)
      have a7 : 0 ≤ (wt_ga s'.2 (132 + Int32.toNatClampNeg s.1) (Int32.toNatClampNeg s'.1)).toInt ∧ (wt_ga s'.2 (132 + Int32.toNatClampNeg s.1) (Int32.toNatClampNeg s'.1)).toInt ≤ 25 := wt_Ra7 I' (132 + Int32.toNatClampNeg s.1) (show 132 ≤ 132 + Int32.toNatClampNeg s.1 by omega) (show 132 + Int32.toNatClampNeg s.1 < 192 by omega) _
      obtain ⟨s4, ε4⟩ : ∃ o : wt_St, o = wt_sa s'.2 (193 + Int32.toNatClampNeg s.1) (Int32.toNatClampNeg s'.1) (wt_ga s'.2 (132 + Int32.toNatClampNeg s.1) (Int32.toNatClampNeg s'.1)) := ⟨_, rfl⟩
      rw [← ε4]
      exact hK2 _ (wt_Rn8 I' ε4 (show 193 ≤ 193 + Int32.toNatClampNeg s.1 by omega) (show 193 + Int32.toNatClampNeg s.1 < 253 by omega) a7.1 a7.2)
  have B134 : ∀ (z : wt_St), wt_gS σ z → wt_H (wp_md_tongue_B134 n z) (fun q => wt_gE σ q.2) := by
    intro z Sz
    unfold wp_md_tongue_B134
    obtain ⟨s1, ε1⟩ : ∃ o : wt_St, o = wt_sf z 108 3 (wt_gf z 108 6) := ⟨_, rfl⟩
    rw [← ε1]
    have S1 : wt_gS σ s1 := wt_gS_fr Sz (wt_RI_fno Sz.1 ε1 (Or.inr (by decide +kernel))) (wt_fr_sf ε1) (fun i k h => by (try dsimp only at h); omega) (fun i h => h.elim)
    refine wt_H_if (fun h => ?_) (fun h => wt_H_some (wt_gS_E S1))
    have g27 : 0 ≤ (wt_gf s1 108 27).toInt ∧ (wt_gf s1 108 27).toInt ≤ 60 := wt_Rf5 S1.1
    obtain ⟨s2, ε2⟩ : ∃ o : wt_St, o = wt_sf s1 108 28 (wt_gf s1 108 27) := ⟨_, rfl⟩
    rw [← ε2]
    have r2 := wt_Rm6 S1.1 ε2 g27.1 g27.2
    obtain ⟨s3, ε3⟩ : ∃ o : wt_St, o = wt_sf s2 108 30 (wt_gf s2 108 29) := ⟨_, rfl⟩
    rw [← ε3]
    exact B175 s3 (wt_RI_fno r2 ε3 (Or.inr (by decide +kernel)))
  have noA : ∀ i, i = 125 ∨ i = 127 ∨ i = 129 ∨ (132 ≤ i ∧ i < 192) → ¬ wt_PA i := fun i h => by unfold wt_PA; omega
  have B121 : ∀ (K : wt_St → Option (Int32 × wt_St)) (z : wt_St), wt_gS σ z → (∀ s', wt_gS σ s' → wt_H (K s') (fun q => wt_gE σ q.2)) → wt_H (wp_md_tongue_B121 n K z) (fun q => wt_gE σ q.2) := by
    intro K z Sz hK
    unfold wp_md_tongue_B121
    refine wt_H_bi (wq_md_closes n hn (59 : Int32) z Sz.1 (by omega)) (fun a ha => ?_)
    obtain ⟨fa, ra, -⟩ := ha
    have Sa := wt_gS_fr Sz ra fa (fun i k h => by (try dsimp only at h); omega) (fun i h => h.elim)
    refine wt_H_bi (wq_md_blanks n hn a ra) (fun b hb => ?_)
    obtain ⟨fb, rb, -⟩ := hb
    exact hK _ (wt_gS_fr Sa rb fb (fun i k h => by (try dsimp only at h); omega) (fun i h => h.elim))
  unfold wp_md_tongue
  obtain ⟨s0, ε0⟩ : ∃ o : wt_St, o = wt_sf σ 108 0 (0 : Int32) := ⟨_, rfl⟩
  rw [← ε0]
  have f0 := wt_fr_sf ε0
  have S0 : wt_gS σ s0 := ⟨wt_RI_fno r0 ε0 (Or.inr (by decide +kernel)), wt_fr.tr wt_fr.rf f0 (fun i k h => by (try dsimp only at h); omega) (fun i h => h.elim)⟩
  have B : ∀ y1 : Int32, y1.toInt ≠ 0 ∨ (0 ≤ x1.toInt ∧ x1.toInt ≤ 500) → wt_H (wp_md_tongue_B23 n x1 y1 s0) (fun q => wt_gE σ q.2) := by
    intro y1 hy
    unfold wp_md_tongue_B23
    refine wt_H_bi (wq_md_bad n hn y1 (1 : Int32) s0 S0.1 (by omega)) (fun b hb => ?_)
    obtain ⟨fb, rb, vb⟩ := hb
    have SB : wt_gS σ b.2 := wt_gS_fr S0 rb fb (fun i k h => by (try dsimp only at h); omega) (fun i h => h.elim)
    refine wt_H_if (fun h => ?_) (fun h => wt_H_some (wt_gS_E SB))
    have c := wt_ceq h
    refine wt_H_bi (wq_md_starts n hn x1 b.2 rb (by omega) (by omega)) (fun q5 h5 => ?_)
    obtain ⟨f5, r5, -⟩ := h5
    have S5 : wt_gS σ q5 := wt_gS_fr SB r5 f5 (fun i k h => by (try dsimp only at h); omega) (fun i h => h.elim)
    obtain ⟨s6, ε6⟩ : ∃ o : wt_St, o = wt_sf q5 108 27 (0 : Int32) := ⟨_, rfl⟩
    rw [← ε6]
    have S6 : wt_gS σ s6 := wt_gS_fr S5 (wt_Rm5 r5 ε6 (show 0 ≤ ((0 : Int32)).toInt by omega) (show ((0 : Int32)).toInt ≤ 60 by omega)) (wt_fr_sf ε6) (fun i k h => by (try dsimp only at h); omega) (fun i h => h.elim)
    obtain ⟨s7, ε7⟩ : ∃ o : wt_St, o = wt_sf s6 108 29 (0 : Int32) := ⟨_, rfl⟩
    rw [← ε7]
    have S7 : wt_gS σ s7 := wt_gS_fr S6 (wt_RI_fno S6.1 ε7 (Or.inr (by decide +kernel))) (wt_fr_sf ε7) (fun i k h => by (try dsimp only at h); omega) (fun i h => h.elim)
    refine wt_H_it (fun s : wt_St => wt_gS σ s) (fun K z Sz hK => ?_) n _ S7
    unfold wp_md_tongue_B47
    refine wt_H_if (fun h1 => ?_) (fun h1 => B134 z Sz)
    refine wt_H_if (fun h2 => B134 z Sz) (fun h2 => ?_)
    refine wt_H_bi (wq_md_reads n hn (0 : Int32) z Sz.1 (by omega) (by omega)) (fun a ha => ?_)
    obtain ⟨fa, ra, -⟩ := ha
    have Sa : wt_gS σ a := wt_gS_fr Sz ra fa (fun i k h => by (try dsimp only at h); omega) noA
    refine wt_H_bi (wq_md_blanks n hn a ra) (fun a2 ha2 => ?_)
    obtain ⟨fa2, ra2, -⟩ := ha2
    have Sa2 : wt_gS σ a2 := wt_gS_fr Sa ra2 fa2 (fun i k h => by (try dsimp only at h); omega) (fun i h => h.elim)
    refine wt_H_it (fun s : Int32 × wt_St => wt_gS σ s.2 ∧ 0 ≤ s.1.toInt ∧ s.1.toInt ≤ 6 ∧ (s.1.toInt = 6 → (wt_gf s.2 108 5).toInt ≠ 0)) (fun K2 s I hK2 => ?_) n _ ⟨Sa2, (show 0 ≤ ((1 : Int32)).toInt by omega), (show ((1 : Int32)).toInt ≤ 6 by omega), fun h => absurd (show ((1 : Int32)).toInt = 6 from h) (by omega)⟩
    obtain ⟨Ss, i1, i2, i3⟩ := I
    unfold wp_md_tongue_B76
    refine wt_H_if (fun h3 => ?_) (fun h3 => B121 K s.2 Ss hK)
    have c3 := wt_ceq h3
    have i5 : s.1.toInt ≤ 5 := by
      by_cases h6 : s.1.toInt = 6
      · exact absurd (c3.trans k0) (i3 h6)
      · omega
    have g4 : 0 ≤ (wt_gf s.2 108 4).toInt ∧ (wt_gf s.2 108 4).toInt ≤ 500 := wt_Rf2 Ss.1
    have g2 : 0 ≤ (wt_gf s.2 108 2).toInt ∧ (wt_gf s.2 108 2).toInt ≤ 500 := wt_Rf1 Ss.1
    refine wt_H_bi (wq_md_byteAt n hn (wt_gf s.2 108 4) s.2 Ss.1 g4.1) (fun d hd => ?_)
    obtain ⟨ed, pd⟩ := hd
    rw [ed]
    refine wt_H_if (fun h4 => ?_) (fun h4 => B121 K s.2 Ss hK)
    have c4 := wt_ceq h4
    have e4 := wt_i1 (c := wt_gf s.2 108 4) (by omega)
    obtain ⟨s8, ε8⟩ : ∃ o : wt_St, o = wt_sf s.2 108 4 ((wt_gf s.2 108 4) + (1 : Int32)) := ⟨_, rfl⟩
    rw [← ε8]
    have S8 : wt_gS σ s8 := wt_gS_fr Ss (wt_Rm2 Ss.1 ε8 (show 0 ≤ ((wt_gf s.2 108 4) + (1 : Int32)).toInt by omega) (show ((wt_gf s.2 108 4) + (1 : Int32)).toInt ≤ 500 by omega)) (wt_fr_sf ε8) (fun i k h => by (try dsimp only at h); omega) (fun i h => h.elim)
    refine wt_H_bi (wq_md_reads n hn s.1 s8 S8.1 i1 i5) (fun a3 ha3 => ?_)
    obtain ⟨fa3, ra3, pa3, -⟩ := ha3
    have Sa3 : wt_gS σ a3 := wt_gS_fr S8 ra3 fa3 (fun i k h => by (try dsimp only at h); omega) noA
    refine wt_H_bi (wq_md_blanks n hn a3 ra3) (fun a4 ha4 => ?_)
    obtain ⟨fa4, ra4, -⟩ := ha4
    have Sa4 : wt_gS σ a4 := wt_gS_fr Sa3 ra4 fa4 (fun i k h => by (try dsimp only at h); omega) (fun i h => h.elim)
    have ei := wt_i1 (c := s.1) (by omega)
    refine hK2 _ ⟨Sa4, (show 0 ≤ (s.1 + (1 : Int32)).toInt by omega), (show (s.1 + (1 : Int32)).toInt ≤ 6 by omega), fun h => ?_⟩
    have h' : (s.1 + (1 : Int32)).toInt = 6 := h
    show (wt_gf a4 108 5).toInt ≠ 0
    rw [fa4.1 108 5 (by (try dsimp only); omega)]
    exact pa3 (by omega)
  refine wt_H_bi (wq_md_in n hn x1 (0 : Int32) (wt_gf s0 108 1) s0 S0.1) (fun q1 h1 => ?_)
  obtain ⟨e1, p1⟩ := h1
  rw [e1]
  refine wt_H_if (fun h => B _ (Or.inl (by omega))) (fun h => ?_)
  have c := wt_nceq h
  have g1 : 0 ≤ (wt_gf s0 108 1).toInt ∧ (wt_gf s0 108 1).toInt ≤ 500 := wt_Rf0 S0.1
  exact B _ (Or.inr (by omega))
set_option maxHeartbeats 4000000 in
theorem wt_IV_g {σ σ' : wt_St} {F : Nat → Nat → Prop} {A : Nat → Prop} (v : wt_IV σ) (r' : wt_RI σ') (f : wt_fr F A σ σ') (x : wt_gE σ σ') (hA : ∀ i, i = 276 ∨ (278 ≤ i ∧ i < 282) ∨ i = 111 ∨ (283 ≤ i ∧ i < 286) → ¬ A i) : wt_IV σ' := by
  obtain ⟨v1, v2, v3, v4, v5⟩ := v
  have g41 : 0 ≤ (wt_gf σ 108 41).toInt ∧ (wt_gf σ 108 41).toInt ≤ 3 := wt_Rf9 v1
  rcases x with ⟨x1, x2, x3⟩ | ⟨x1, x2⟩
  · refine ⟨r', wt_M_fr v2 f (hA 111 (by omega)), wt_PG_eq v1 v3 x2 x1, wt_PD_fr v4 f (fun i hi => hA i (by omega)), fun i hi => ?_⟩
    rw [x3] at hi
    exact wt_KK_eq v1 (v5 i hi) x2 (fun j hj => x1 j (by unfold wt_TA at hj; unfold wt_PA; omega)) (f.2 _ (hA _ (by omega)))
  · exact ⟨r', wt_M_fr v2 f (hA 111 (by omega)), fun g hg hne => absurd (x1 g hg) hne, wt_PD_fr v4 f (fun i hi => hA i (by omega)), fun i hi => by omega⟩
end WTQ4
-- 86.set.lean.txt
section WTQ5
/-! a page is set -/
def wt_sS (σ s : wt_St) : Prop := wt_RI s ∧ wt_fr (fun i k => i = 108 ∧ (k = 0 ∨ k = 54)) (fun i => i = 287 ∨ i = 124 ∨ i = 288) σ s
theorem wt_sS_fr {σ s s' : wt_St} {F : Nat → Nat → Prop} {A : Nat → Prop} (h : wt_sS σ s) (r : wt_RI s') (f : wt_fr F A s s') (hF : ∀ i k, F i k → i = 108 ∧ (k = 0 ∨ k = 54)) (hA : ∀ i, A i → i = 287 ∨ i = 124 ∨ i = 288) : wt_sS σ s' := ⟨r, wt_fr.tr h.2 f hF hA⟩
def wt_sE (s : wt_St) : Prop := wt_PG s ∧ wt_PD s
theorem wt_sS_E {σ s : wt_St} (v : wt_IV σ) (h : wt_sS σ s) : wt_sE s := ⟨wt_PG_fr v.1 v.2.2.1 h.2 (by (try dsimp only); omega) (fun i hi z => by unfold wt_PA at hi; (try dsimp only at z); omega), wt_PD_fr v.2.2.2.1 h.2 (fun i hi z => by (try dsimp only at z); omega)⟩
set_option maxRecDepth 100000 in
set_option maxHeartbeats 4000000 in
theorem wq_md_setH (n : Nat) (hn : 4294967297 < n) (x1 x2 : Int32) (σ : wt_St) (v : wt_IV σ) : wt_H (wp_md_set n x1 x2 σ) (fun q => wt_sE q.2) := by
  have k0 : (0 : Int32).toInt = 0 := by decide
  have k1 : (1 : Int32).toInt = 1 := by decide
  have k2 : (2 : Int32).toInt = 2 := by decide
  have k4 : (4 : Int32).toInt = 4 := by decide
  have g39 : 0 ≤ (wt_gf σ 108 39).toInt ∧ (wt_gf σ 108 39).toInt ≤ 8 := wt_R_gf v.1 7 rfl
  have B87 : ∀ (x3 : Int32) (z : wt_St), wt_sS σ z → 0 ≤ x1.toInt → x1.toInt < (wt_gf σ 108 39).toInt → wt_NB z → (∀ l : Nat, l < 26 → (wt_ga z 287 l).toInt = wt_nt σ (Int32.toNatClampNeg x1) l) → (∀ l : Nat, l < 26 → (wt_ga z 287 l).toInt ≤ wt_go z x2.toInt l) → 0 ≤ x3.toInt → x3.toInt ≤ 4 → wt_H (wp_md_set_B87 n x1 x2 x3 z) (fun q => wt_sE q.2) := by
    intro x3 z Sz hx0 hx1 nb hnt hgo h30 h34
    unfold wp_md_set_B87
    refine wt_H_if (fun h => wt_H_some (wt_sS_E v Sz)) (fun h => ?_)
    have c := wt_nceq h
    have en := wt_tnI h30
    have en1 := wt_tnI hx0
    refine wt_H_bi (wq_md_takes n hn x2 x3 z Sz.1 h30 h34 nb) (fun t ht => ?_)
    obtain ⟨ft, rt, pt⟩ := ht
    have St : wt_sS σ t.2 := wt_sS_fr Sz rt ft (fun i k h => by (try dsimp only at h); omega) (fun i h => by (try dsimp only at h); omega)
    have pt2 : (∀ l : Nat, l < 26 → wt_tk t.2 l = (wt_ga z 287 l).toInt) ∧ wt_TD t.2 x2.toInt x3.toInt := by
      rcases pt with ⟨-, l, hl, hlt⟩ | ⟨-, a, b⟩
      · have := hgo l hl
        omega
      · exact ⟨a, b⟩
    obtain ⟨htk, htd⟩ := pt2
    have g54 : 0 ≤ (wt_gf t.2 108 54).toInt ∧ (wt_gf t.2 108 54).toInt ≤ 108 := wt_R_gf rt 10 rfl
    have n54 := wt_tnI g54.1
    refine wt_H_gd (fun _ => ?_)
    refine wt_H_gd (fun _ => ?_)
    obtain ⟨s1, ε1⟩ : ∃ o : wt_St, o = wt_sa t.2 275 (Int32.toNatClampNeg x3) x1 := ⟨_, rfl⟩
    rw [← ε1]
    have f1 := wt_fr_sa ε1
    have e54 : wt_gf s1 108 54 = wt_gf t.2 108 54 := f1.1 108 54 (fun h => h)
    rw [e54]
    obtain ⟨s2, ε2⟩ : ∃ o : wt_St, o = wt_sa s1 276 (Int32.toNatClampNeg x3) (wt_gf t.2 108 54) := ⟨_, rfl⟩
    rw [← ε2]
    have f2 := wt_fr_sa ε2
    refine wt_H_it (fun s : Int32 × wt_St => wt_fr (fun _ _ => False) (fun i => i = 278 + Int32.toNatClampNeg x3) s2 s.2 ∧ 0 ≤ s.1.toInt ∧ ∀ k : Nat, (k : Int) < s.1.toInt → wt_ga s.2 (278 + Int32.toNatClampNeg x3) k = wt_ga t.2 288 k) (fun K s I hK => ?_) n _ ⟨wt_fr.rf, (show 0 ≤ ((0 : Int32)).toInt by omega), fun k hk => absurd (show (k : Int) < ((0 : Int32)).toInt from hk) (by omega)⟩
    obtain ⟨fs, i1, i2⟩ := I
    have es54 : wt_gf s.2 108 54 = wt_gf t.2 108 54 := (fs.1 108 54 (fun h => h)).trans ((f2.1 108 54 (fun h => h)).trans e54)
    have es288 : ∀ k, wt_ga s.2 288 k = wt_ga t.2 288 k := fun k => (fs.2 288 (by (try dsimp only); omega) k).trans ((f2.2 288 (by (try dsimp only); omega) k).trans (f1.2 288 (by (try dsimp only); omega) k))
    unfold wp_md_set_B122
    rw [es54]
    refine wt_H_if (fun h2 => ?_) (fun h2 => ?_)
    · have c2 := wt_cle h2
      refine wt_H_some ?_
      show wt_sE s.2
      have q275 : wt_ga s.2 275 (Int32.toNatClampNeg x3) = x1 := (fs.2 275 (by (try dsimp only); omega) _).trans ((f2.2 275 (by (try dsimp only); omega) _).trans (wt_v_sa ε1))
      have q276 : wt_ga s.2 276 (Int32.toNatClampNeg x3) = wt_gf t.2 108 54 := (fs.2 276 (by (try dsimp only); omega) _).trans (wt_v_sa ε2)
      have o275 : ∀ g, g ≠ Int32.toNatClampNeg x3 → wt_ga s.2 275 g = wt_ga σ 275 g := fun g hg => (fs.2 275 (by (try dsimp only); omega) _).trans ((f2.2 275 (by (try dsimp only); omega) _).trans ((wt_w_sa ε1 g hg).trans (St.2.2 275 (by (try dsimp only); omega) g)))
      have o276 : ∀ g, g ≠ Int32.toNatClampNeg x3 → wt_ga s.2 276 g = wt_ga σ 276 g := fun g hg => (fs.2 276 (by (try dsimp only); omega) _).trans ((wt_w_sa ε2 g hg).trans ((f1.2 276 (by (try dsimp only); omega) _).trans (St.2.2 276 (by (try dsimp only); omega) g)))
      have orow : ∀ i, i ≠ 278 + Int32.toNatClampNeg x3 → i ≠ 275 → i ≠ 276 → i ≠ 287 → i ≠ 124 → i ≠ 288 → ∀ k, wt_ga s.2 i k = wt_ga σ i k := fun i a1 a2 a3 a4 a5 a6 k => (fs.2 i a1 k).trans ((f2.2 i a3 k).trans ((f1.2 i a2 k).trans (St.2.2 i (by (try dsimp only); omega) k)))
      have e39 : wt_gf s.2 108 39 = wt_gf σ 108 39 := (fs.1 108 39 (fun h => h)).trans ((f2.1 108 39 (fun h => h)).trans ((f1.1 108 39 (fun h => h)).trans (St.2.1 108 39 (by (try dsimp only); omega))))
      have hTA : ∀ i, wt_TA i → ∀ j, wt_ga s.2 i j = wt_ga σ i j := fun i hi => by
        unfold wt_TA at hi
        exact orow i (by omega) (by omega) (by omega) (by omega) (by omega) (by omega)
      refine ⟨fun g hg hne => ?_, fun g hg k k' h1 h2 => ?_⟩
      · by_cases hc : g = Int32.toNatClampNeg x3
        · subst hc
          rw [q275, e39]
          refine ⟨hx1, fun l h0 h1 => ?_⟩
          rw [wt_nt_ta v.1 (by omega) hTA]
          have hl : ((l.toNat : Nat) : Int) = l := Int.toNat_of_nonneg h0
          have a1 := hnt l.toNat (by omega)
          have a2 : wt_ct (fun k => (wt_ga t.2 288 k).toInt / 13) ((l.toNat : Nat) : Int) (Int32.toNatClampNeg (wt_gf t.2 108 54)) = (wt_ga z 287 l.toNat).toInt := htk l.toNat (by omega)
          rw [hl] at a1 a2
          have e3 : wt_pc s.2 (Int32.toNatClampNeg x3) l = wt_ct (fun k => (wt_ga t.2 288 k).toInt / 13) l (Int32.toNatClampNeg (wt_gf t.2 108 54)) := by
            unfold wt_pc
            rw [q276]
            exact wt_ct_congr _ (fun k hk => by
              show (wt_ga s.2 (278 + Int32.toNatClampNeg x3) k).toInt / 13 = (wt_ga t.2 288 k).toInt / 13
              rw [i2 k (by omega)])
          rw [e3]
          omega
        · rw [o275 g hc] at hne ⊢
          rw [e39]
          have h := v.2.2.1 g hg hne
          have gt : -1 ≤ (wt_ga σ 275 g).toInt ∧ (wt_ga σ 275 g).toInt ≤ 7 := wt_R_ga v.1 12 rfl 275 (by decide) (by decide) g
          refine ⟨h.1, fun l h0 h1 => ?_⟩
          rw [wt_nt_ta v.1 (wt_tnle (b := 7) gt.2) hTA]
          have e2 : wt_pc s.2 g l = wt_pc σ g l := by
            unfold wt_pc
            rw [o276 g hc]
            have e3 : (fun k => (wt_ga s.2 (278 + g) k).toInt / 13) = (fun k => (wt_ga σ (278 + g) k).toInt / 13) := by
              funext k
              rw [orow (278 + g) (by omega) (by omega) (by omega) (by omega) (by omega) (by omega) k]
            rw [e3]
          rw [e2]
          exact h.2 l h0 h1
      · by_cases hc : g = Int32.toNatClampNeg x3
        · subst hc
          rw [q276] at h2
          rw [i2 k (by omega), i2 k' (by omega)]
          exact (htd k h2).2.2 k' h1
        · rw [o276 g hc] at h2
          rw [orow (278 + g) (by omega) (by omega) (by omega) (by omega) (by omega) (by omega) k, orow (278 + g) (by omega) (by omega) (by omega) (by omega) (by omega) (by omega) k']
          exact v.2.2.2.1 g hg k k' h1 h2
    · have c2 := wt_ncle h2
      have ei := wt_i1 (c := s.1) (by omega)
      have es := wt_tnI i1
      refine wt_H_gd (fun _ => ?_)
      refine wt_H_gd (fun _ => ?_)
      refine wt_H_gd (fun _ => ?_)
      obtain ⟨s3, ε3⟩ : ∃ o : wt_St, o = wt_sa s.2 (278 + Int32.toNatClampNeg x3) (Int32.toNatClampNeg s.1) (wt_ga s.2 288 (Int32.toNatClampNeg s.1)) := ⟨_, rfl⟩
      rw [← ε3]
      refine hK _ ⟨wt_fr.tr fs (wt_fr_sa ε3) (fun i k h => h) (fun i h => h), (show 0 ≤ (s.1 + (1 : Int32)).toInt by omega), fun k hk => ?_⟩
      have hk' : (k : Int) < (s.1 + (1 : Int32)).toInt := hk
      show wt_ga s3 (278 + Int32.toNatClampNeg x3) k = wt_ga t.2 288 k
      by_cases hc : k = Int32.toNatClampNeg s.1
      · rw [hc, wt_v_sa ε3]; exact es288 _
      · rw [wt_w_sa ε3 k hc]; exact i2 k (by omega)
  have B39 : ∀ (y1 : Int32) (z : wt_St), wt_sS σ z → 0 ≤ x1.toInt → x1.toInt < (wt_gf σ 108 39).toInt → wt_H (wp_md_set_B39 n x1 x2 y1 z) (fun q => wt_sE q.2) := by
    intro y1 z Sz hx0 hx1
    unfold wp_md_set_B39
    have en1 := wt_tnI hx0
    refine wt_H_bi (wq_md_bad n hn y1 (2 : Int32) z Sz.1 (by omega)) (fun b hb => ?_)
    obtain ⟨fb, rb, -⟩ := hb
    have SB : wt_sS σ b.2 := wt_sS_fr Sz rb fb (fun i k h => by (try dsimp only at h); omega) (fun i h => h.elim)
    refine wt_H_if (fun h => ?_) (fun h => wt_H_some (wt_sS_E v SB))
    refine wt_H_bi (wq_md_needsText n hn x1 b.2 rb hx0 (by omega)) (fun d hd => ?_)
    obtain ⟨fd, rd, nb, hnt⟩ := hd
    have SD : wt_sS σ d := wt_sS_fr SB rd fd (fun i k h => h.elim) (fun i h => by (try dsimp only at h); omega)
    have hnt2 : ∀ l : Nat, l < 26 → (wt_ga d 287 l).toInt = wt_nt σ (Int32.toNatClampNeg x1) l := fun l hl => by
      rw [hnt l hl]
      exact wt_nt_ta v.1 (by omega) (fun i hi => SB.2.2 i (by unfold wt_TA at hi; (try dsimp only); omega))
    refine wt_H_bi (wq_md_lackingP n hn x2 d rd) (fun a ha => ?_)
    obtain ⟨ea, pa⟩ := ha
    rw [ea]
    refine wt_H_if (fun h2 => ?_) (fun h2 => wt_H_some (wt_sS_E v SD))
    have c2 := wt_ceq h2
    rw [wt_lm1] at c2
    have hgo : ∀ l : Nat, l < 26 → (wt_ga d 287 l).toInt ≤ wt_go d x2.toInt l := by
      rcases pa with ⟨-, h3⟩ | ⟨h3, -⟩
      · exact h3
      · omega
    refine wt_H_it (fun s : Int32 × wt_St => s.2 = d ∧ 0 ≤ s.1.toInt ∧ s.1.toInt ≤ 4) (fun K s I hK => ?_) n _ ⟨rfl, (show 0 ≤ ((0 : Int32)).toInt by omega), (show ((0 : Int32)).toInt ≤ 4 by omega)⟩
    obtain ⟨i1, i2, i3⟩ := I
    unfold wp_md_set_B66
    rw [i1]
    refine wt_H_if (fun h3 => B87 s.1 d SD hx0 hx1 nb hnt2 hgo i2 i3) (fun h3 => ?_)
    have c3 := wt_ncle h3
    have ei := wt_i1 (c := s.1) (by omega)
    refine wt_H_gd (fun _ => ?_)
    refine wt_H_if (fun h4 => B87 s.1 d SD hx0 hx1 nb hnt2 hgo i2 i3) (fun h4 => ?_)
    exact hK _ ⟨rfl, (show 0 ≤ (s.1 + (1 : Int32)).toInt by omega), (show (s.1 + (1 : Int32)).toInt ≤ 4 by omega)⟩
  unfold wp_md_set
  obtain ⟨s0, ε0⟩ : ∃ o : wt_St, o = wt_sf σ 108 0 (0 : Int32) := ⟨_, rfl⟩
  rw [← ε0]
  have f0 := wt_fr_sf ε0
  have S0 : wt_sS σ s0 := ⟨wt_RI_fno v.1 ε0 (Or.inr (by decide)), wt_fr.tr wt_fr.rf f0 (fun i k h => by (try dsimp only at h); omega) (fun i h => h.elim)⟩
  have B : ∀ y1 : Int32, y1.toInt ≠ 0 ∨ (0 ≤ x1.toInt ∧ x1.toInt < (wt_gf σ 108 39).toInt) → wt_H (wp_md_set_B19 n x1 x2 y1 s0) (fun q => wt_sE q.2) := by
    intro y1 hy
    unfold wp_md_set_B19
    refine wt_H_bi (wq_md_bad n hn y1 (1 : Int32) s0 S0.1 (by omega)) (fun b hb => ?_)
    obtain ⟨fb, rb, vb⟩ := hb
    have SB : wt_sS σ b.2 := wt_sS_fr S0 rb fb (fun i k h => by (try dsimp only at h); omega) (fun i h => h.elim)
    refine wt_H_if (fun h => ?_) (fun h => wt_H_some (wt_sS_E v SB))
    have c := wt_ceq h
    refine wt_H_bi (wq_md_isCopies n hn x2 b.2 rb) (fun d hd => ?_)
    rw [hd.1]
    exact wt_H_if (fun h2 => B39 _ b.2 SB (by omega) (by omega)) (fun h2 => B39 _ b.2 SB (by omega) (by omega))
  refine wt_H_bi (wq_md_isText n hn x1 s0 S0.1) (fun q1 h1 => ?_)
  obtain ⟨e1, p1⟩ := h1
  rw [e1]
  refine wt_H_if (fun h => B _ (Or.inl (by omega))) (fun h => ?_)
  have c := wt_nceq h
  rw [f0.1 108 39 (by (try dsimp only); omega)] at p1
  exact B _ (Or.inr (by omega))
end WTQ5
-- 87.kase.lean.txt
section WTQ6
/-- the reference's fault is one of three, and nothing is thrown while a case is read -/
theorem wh_kL (n m : Nat) (hn : 4294967297 < n) {z : wt_St} (r : wt_RI z) : wt_H (wt_it (wt_kL n) m z) (fun y => wt_RI y ∧ wt_fr (fun i k => i = 108 ∧ (k = 24 ∨ (4 ≤ k ∧ k < 8))) (fun i => i = 110 ∨ i = 112 ∨ i = 114 ∨ i = 116 ∨ i = 118 ∨ i = 120 ∨ i = 122) z y) := by
  refine wt_H_it (fun y : wt_St => wt_RI y ∧ wt_fr (fun i k => i = 108 ∧ (k = 24 ∨ (4 ≤ k ∧ k < 8))) (fun i => i = 110 ∨ i = 112 ∨ i = 114 ∨ i = 116 ∨ i = 118 ∨ i = 120 ∨ i = 122) z y) (fun K y hy hK => ?_) m z ⟨r, wt_fr.rf⟩
  unfold wt_kL
  refine wt_H_if (fun _ => wt_H_if (fun _ => wt_H_some hy) (fun _ => ?_)) (fun _ => wt_H_some hy)
  refine wt_H_bh (wq_md_clause n hn y hy.1).h (fun a ha => ?_)
  obtain ⟨fa, ra, -⟩ := ha
  refine wt_H_bh (wq_md_blanks n hn a ra).h (fun b hb => ?_)
  obtain ⟨fb, rb, -⟩ := hb
  exact hK b ⟨rb, wt_fr.tr (wt_fr.tr hy.2 fa (fun i k h => by (try dsimp only at h); omega) (fun i h => by (try dsimp only at h); omega)) fb (fun i k h => by (try dsimp only at h); omega) (fun i h => h.elim)⟩
set_option maxHeartbeats 8000000 in
/-- kase on both sides: both refuse, or both answer alike; and then the same tables stand, or nothing of either has been taken over -/
theorem wr_kase (n : Nat) (hn : 4294967297 < n) {x1 : Int32} {s z : wt_St} (tb : wt_TB s z) (rz : wt_RI z) : wt_HH (wp_ap_kase n x1 s) (wp_md_kase n x1 z) (fun q y => (q.1 = 1 ∧ wt_gf y.2 108 0 = 1 ∧ q.2.2 = s ∧ wt_fr (fun i k => i = 108 ∧ k = 0) (fun _ => False) z y.2) ∨ (q.1 = 0 ∧ wt_gf y.2 108 0 = 0 ∧ q.2.1 = y.1 ∧ wt_gf q.2.2 1 7 = wt_gf y.2 108 3 ∧ ((q.2.1.toInt < 0 ∧ wt_fr (fun i k => (i = 1 ∧ 2 ≤ k) ∨ (i = 12 ∧ k = 7)) (fun i => i = 3 ∨ (13 ≤ i ∧ i < 20)) s q.2.2 ∧ wt_fr (fun i k => i = 108 ∧ (k = 24 ∨ k < 8)) (fun i => i = 110 ∨ i = 112 ∨ i = 114 ∨ i = 116 ∨ i = 118 ∨ i = 120 ∨ i = 122) z y.2) ∨ wt_KC q.2.2 y.2))) := by
  have k0 : (0 : Int32).toInt = 0 := by decide
  have k10 : (10 : Int32).toInt = 10 := by decide
  have hz : 0 ≤ (wt_gf z 108 1).toInt ∧ (wt_gf z 108 1).toInt ≤ 500 := wt_R_gf rz 0 rfl
  unfold wp_md_kase
  obtain ⟨z0, ε0⟩ : ∃ o : wt_St, o = wt_sf z 108 0 (0 : Int32) := ⟨_, rfl⟩
  rw [← ε0]
  have g0 := wt_fr_sf ε0
  have rz0 := wt_RI_fno rz ε0 (Or.inr (by decide))
  have e1 : wt_gf z0 108 1 = wt_gf z 108 1 := g0.1 108 1 (by (try dsimp only); omega)
  have t0 : wt_gf z0 108 0 = 0 := wt_v_sf ε0
  rw [e1]
  refine wt_HH_r (wh_in n) (fun q1 h1 => ?_)
  obtain ⟨h1a, h1b⟩ := h1
  rw [h1a]
  have BAD : wt_HH (wp_ap_kase_B20 n x1 (1 : Int32) s) (wp_md_kase_B23 n x1 (1 : Int32) z0) (fun q y => (q.1 = 1 ∧ wt_gf y.2 108 0 = 1 ∧ q.2.2 = s ∧ wt_fr (fun i k => i = 108 ∧ k = 0) (fun _ => False) z y.2) ∨ (q.1 = 0 ∧ wt_gf y.2 108 0 = 0 ∧ q.2.1 = y.1 ∧ wt_gf q.2.2 1 7 = wt_gf y.2 108 3 ∧ ((q.2.1.toInt < 0 ∧ wt_fr (fun i k => (i = 1 ∧ 2 ≤ k) ∨ (i = 12 ∧ k = 7)) (fun i => i = 3 ∨ (13 ≤ i ∧ i < 20)) s q.2.2 ∧ wt_fr (fun i k => i = 108 ∧ (k = 24 ∨ k < 8)) (fun i => i = 110 ∨ i = 112 ∨ i = 114 ∨ i = 116 ∨ i = 118 ∨ i = 120 ∨ i = 122) z y.2) ∨ wt_KC q.2.2 y.2))) := by
    unfold wp_ap_kase_B20 wp_md_kase_B23
    refine wt_HH_l (wh_refuse1 n) (fun q hq => ?_)
    subst hq
    dsimp only
    rw [if_neg (by decide)]
    refine wt_HH_r (wh_bad1 n t0 (by decide)) (fun y hy => ?_)
    subst hy
    dsimp only
    rw [if_neg (by decide)]
    exact wt_HH_some (Or.inl ⟨rfl, wt_v_sf rfl, rfl, wt_fr.tr g0 (wt_fr_sf rfl) (fun i k h => h) (fun i h => h)⟩)
  have GOOD : 0 ≤ x1.toInt → x1.toInt ≤ (wt_gf z 108 1).toInt → wt_HH (wp_ap_kase_B20 n x1 (0 : Int32) s) (wp_md_kase_B23 n x1 (0 : Int32) z0) (fun q y => (q.1 = 1 ∧ wt_gf y.2 108 0 = 1 ∧ q.2.2 = s ∧ wt_fr (fun i k => i = 108 ∧ k = 0) (fun _ => False) z y.2) ∨ (q.1 = 0 ∧ wt_gf y.2 108 0 = 0 ∧ q.2.1 = y.1 ∧ wt_gf q.2.2 1 7 = wt_gf y.2 108 3 ∧ ((q.2.1.toInt < 0 ∧ wt_fr (fun i k => (i = 1 ∧ 2 ≤ k) ∨ (i = 12 ∧ k = 7)) (fun i => i = 3 ∨ (13 ≤ i ∧ i < 20)) s q.2.2 ∧ wt_fr (fun i k => i = 108 ∧ (k = 24 ∨ k < 8)) (fun i => i = 110 ∨ i = 112 ∨ i = 114 ∨ i = 116 ∨ i = 118 ∨ i = 120 ∨ i = 122) z y.2) ∨ wt_KC q.2.2 y.2))) := by
    intro hx0 hx1
    have en := wt_tnI hx0
    unfold wp_ap_kase_B20 wp_md_kase_B23
    refine wt_HH_l (wh_refuse0 n) (fun q hq => ?_)
    subst hq
    dsimp only
    rw [if_pos rfl]
    refine wt_HH_r (wh_bad0 n t0) (fun y hy => ?_)
    subst hy
    dsimp only
    rw [if_pos rfl]
    refine wt_HH_l (wh_begin n (β := fun j => wt_ga s 2 j) hx0 (by omega) (fun _ _ => rfl)) (fun s6 hs6 => ?_)
    obtain ⟨tv, e17, -, -, fb⟩ := hs6
    refine wt_HH_r ((wh_starts n (β := fun j => wt_ga s 2 j) (z0 := z0) hx0 (by omega) (fun j hj => by rw [g0.2 109 (fun h => h)]; exact (tb.1 j hj).symm)).and (wq_md_starts n hn x1 z0 rz0 hx0 (by omega)).h) (fun z7 hz7 => ?_)
    obtain ⟨⟨j, rj, rv7, h5, h6, h7, g7⟩, -, rz7, -⟩ := hz7
    refine wt_HH_r ((wh_clearsCase n).and (wq_md_clearsCase n hn z7 rz7).h) (fun z8 hz8 => ?_)
    obtain ⟨⟨g8, l8, m8, v8⟩, -, rz8⟩ := hz8
    rw [wt_kL_fac]
    -- the class' own frame, up to the fault
    have FC : wt_H (wp_ld_fill n 12 s6) (fun q => wt_fr (fun i k => (i = 1 ∧ 2 ≤ k) ∨ (i = 12 ∧ k = 7)) (fun i => i = 3 ∨ (13 ≤ i ∧ i < 20)) s q.2) := (wq_ld_fill n hn 12 s6).h.imp (fun q hq => wt_fr.tr (wt_frw fb (fun i k h => Or.inl h) (fun i h => h.elim)) hq (fun i k h => by (try dsimp only at h); omega) (fun i h => by (try dsimp only at h); omega))
    refine wt_HH_b (P := fun q y => ((q.1 = 0 ∧ wt_ft q.2 y) ∨ (q.1 = 1 ∧ wt_gf y 108 5 = 0 ∧ ∃ c, wt_lr c q.2 y)) ∧ (wt_RI y ∧ wt_fr (fun i k => i = 108 ∧ (k = 24 ∨ (4 ≤ k ∧ k < 8))) (fun i => i = 110 ∨ i = 112 ∨ i = 114 ∨ i = 116 ∨ i = 118 ∨ i = 120 ∨ i = 122) z8 y) ∧ wt_fr (fun i k => (i = 1 ∧ 2 ≤ k) ∨ (i = 12 ∧ k = 7)) (fun i => i = 3 ∨ (13 ≤ i ∧ i < 20)) s q.2) ?_ (fun a b hab => ?_)
    · refine fun a b ha hb => ⟨?_, wh_kL n n hn rz8 b hb, FC a ha⟩
      have HF : wt_HH (wp_ld_fill n 12 s6) (wt_it (wt_kL n) n z8) (fun q y => (q.1 = 0 ∧ wt_ft q.2 y) ∨ (q.1 = 1 ∧ wt_gf y 108 5 = 0 ∧ ∃ c, wt_lr c q.2 y)) := by
        unfold wp_ld_fill
        refine wt_HH_l (wh_ldclear n) (fun s7 hs7 => ?_)
        obtain ⟨f7, d13, d15, d17, d18, d19, d127⟩ := hs7
        have tv7 := wt_tv_fr tv f7 (by decide) (by decide) (by decide)
        have rv8 := wt_rv_fr rv7 g8 (by decide) (by decide) (by decide)
        have h58 : wt_gf z8 108 5 = 0 := by rw [g8.1 108 5 (by decide)]; exact h5
        refine wr_fillLoop n n n hn tv7 rj rv8 h58 ⟨fun l hl => ?_, fun l hl => ?_, fun l hl => ?_, fun l hl => ?_, fun m hm => ?_, ?_, ?_, ?_⟩
        · rw [d13 l hl, (l8 l hl).1]
          exact ⟨rfl, by omega, by omega, fun i hi => absurd hi (by omega)⟩
        · rw [d15 l hl, (l8 l hl).2.1]
          exact ⟨rfl, by omega, by omega, fun i hi => absurd hi (by omega)⟩
        · rw [d17 l hl, (l8 l hl).2.2.1]
        · rw [d18 l hl, (l8 l hl).2.2.2]
        · rw [d19 m hm, m8 m hm]
        · rw [d127, v8]
        · rw [g8.1 108 7 (by decide)]; exact h7
        · rw [f7.1 1 7 (by decide), g8.1 108 6 (by decide), e17, h6]
      exact HF a b ha hb
    · obtain ⟨hab, ⟨rb, gb⟩, fc⟩ := hab
      have hb0 : wt_gf b 108 0 = 0 := by rw [gb.1 108 0 (by (try dsimp only); omega), g8.1 108 0 (by decide), g7.1 108 0 (by (try dsimp only); omega)]; exact t0
      have h53 : 0 ≤ (wt_gf b 108 5).toInt ∧ (wt_gf b 108 5).toInt ≤ 3 := wt_R_gf rb 3 rfl
      rcases hab with ⟨a1, f, p, hf, fl, fm⟩ | ⟨a1, b5, c, lrc⟩
      · rw [if_pos a1]
        unfold wp_md_kase_B70
        obtain ⟨z9, ε9⟩ : ∃ o : wt_St, o = wt_sf b 108 3 (wt_gf b 108 6) := ⟨_, rfl⟩
        rw [← ε9]
        have g9 := wt_fr_sf ε9
        have e95 : wt_gf z9 108 5 = wt_gf b 108 5 := g9.1 108 5 (by (try dsimp only); omega)
        have e65 : wt_gf a.2 1 6 = wt_gf b 108 5 := wt_eqI (fl.1.trans fm.1.symm)
        have es := wt_subE (x := wt_gf b 108 5) (y := (10 : Int32)) (by omega) (by omega)
        rw [if_neg (by rw [e95]; exact wt_frt_nz fm hf), e95, e65]
        refine wt_HH_some (Or.inr ⟨rfl, (g9.1 108 0 (by (try dsimp only); omega)).trans hb0, rfl, ?_, Or.inl ⟨?_, fc, ?_⟩⟩)
        · show wt_gf a.2 1 7 = wt_gf z9 108 3
          rw [wt_v_sf ε9]
          exact wt_eqI (fl.2.trans fm.2.symm)
        · show ((wt_gf b 108 5) - (10 : Int32)).toInt < 0
          omega
        · exact wt_fr.tr (wt_fr.tr (wt_fr.tr (wt_fr.tr (wt_frw g0 (fun i k h => by (try dsimp only at h); omega) (fun i h => h.elim)) g7 (fun i k h => by (try dsimp only at h); omega) (fun i h => h.elim)) g8 (fun i k h => by (try dsimp only at h); omega) (fun i h => by (try dsimp only at h); omega)) gb (fun i k h => by (try dsimp only at h); omega) (fun i h => h)) g9 (fun i k h => by (try dsimp only at h); omega) (fun i h => h.elim)
      · rw [if_neg (by rw [a1]; decide)]
        exact (wr_kaseEnd n hn lrc.2.2.2.2.2.2.2 b5 lrc).imp (fun q y hq => Or.inr ⟨hq.1, hq.2.2.1.trans hb0, hq.2.1, hq.2.2.2.1, Or.inr hq.2.2.2.2⟩)
  unfold wp_ap_kase wp_ap_kase_B15
  have ts := wt_ceq tb.2
  rcases h1b with ⟨c1, c2⟩ | ⟨c1, c2, c3⟩
  · rw [if_pos c1]
    refine wt_HH_il (fun d => BAD) (fun d => ?_)
    have d' := wt_ncl d
    refine wt_HH_il (fun f => ?_) (fun f => BAD)
    have f' := wt_cle f
    omega
  · rw [if_neg (show ¬ x1 < 0 from fun d => by have := wt_clt d; omega), if_pos (Int32.le_iff_toInt_le.mpr (by omega)), if_neg (by rw [c1]; decide)]
    exact GOOD (by omega) c3
end WTQ6
-- 87b.feed.lean.txt
section WTQ7
/-! feed: the same bytes on both tapes -/
theorem wt_255 : ∀ i, i < 32 → (255#32).getLsbD i = decide (i < 8) := by decide
theorem wt_bvs (x y : BitVec 32) {s : Nat} (hy : y.toNat = s) (hs : s ≤ 24) : (x >>> s) &&& 255#32 = (x.sshiftRight' y) &&& 255#32 := by
  apply BitVec.eq_of_getLsbD_eq
  intro i hi
  rw [BitVec.getLsbD_and, BitVec.getLsbD_and, BitVec.getLsbD_ushiftRight, BitVec.getLsbD_sshiftRight', wt_255 i hi, hy]
  by_cases h8 : i < 8
  · rw [if_pos (by omega), decide_eq_false (by omega : ¬ 32 ≤ i)]
    rfl
  · rw [decide_eq_false h8, Bool.and_false, Bool.and_false]
def wt_by (x : Int32) (b : Nat) : Int32 := (wt_ush x (nI (24 - 8 * b))) &&& (255 : Int32)
theorem wt_byM (x : Int32) {b : Nat} (hb : b < 4) : (x >>> (nI (24 - 8 * b))) &&& (255 : Int32) = wt_by x b := by
  unfold wt_by
  apply Int32.toBitVec_inj.mp
  have : b = 0 ∨ b = 1 ∨ b = 2 ∨ b = 3 := by omega
  rcases this with h | h | h | h
  · subst h
    exact (wt_bvs x.toBitVec 24#32 (s := 24) rfl (by omega)).symm
  · subst h
    exact (wt_bvs x.toBitVec 16#32 (s := 16) rfl (by omega)).symm
  · subst h
    exact (wt_bvs x.toBitVec 8#32 (s := 8) rfl (by omega)).symm
  · subst h
    exact (wt_bvs x.toBitVec 0#32 (s := 0) rfl (by omega)).symm
set_option maxHeartbeats 4000000 in
theorem wh_push (n : Nat) {x : Int32} {σ : wt_St} {k : Nat} (hk : (wt_gf σ 1 2).toInt = (k : Int)) (hk2 : k + 4 ≤ 500) : wt_H (wp_tp_push n x σ) (fun q => wt_fr (fun i k => i = 1 ∧ k = 2) (fun i => i = 2) σ q ∧ (wt_gf q 1 2).toInt = ((k + 4 : Nat) : Int) ∧ (∀ b, b < 4 → wt_ga q 2 (k + b) = wt_by x b) ∧ ∀ j, j < k ∨ k + 4 ≤ j → wt_ga q 2 j = wt_ga σ 2 j) := by
  have k0 : (0 : Int32).toInt = 0 := by decide
  have k24 : (24 : Int32).toInt = 24 := by decide
  unfold wp_tp_push
  refine wt_H_it (fun s : Int32 × wt_St => ∃ b : Nat, b ≤ 4 ∧ s.1.toInt = 24 - 8 * (b : Int) ∧ (wt_gf s.2 1 2).toInt = ((k + b : Nat) : Int) ∧ wt_fr (fun i k => i = 1 ∧ k = 2) (fun i => i = 2) σ s.2 ∧ (∀ b', b' < b → wt_ga s.2 2 (k + b') = wt_by x b') ∧ ∀ j, j < k ∨ k + b ≤ j → wt_ga s.2 2 j = wt_ga σ 2 j) (fun K s I hK => ?_) n _ ⟨0, by omega, by show ((24 : Int32)).toInt = _; omega, by rw [Nat.add_zero]; exact hk, wt_fr.rf, fun b' h => absurd h (by omega), fun j _ => rfl⟩
  obtain ⟨b, b1, b2, b3, f, b4, b5⟩ := I
  unfold wp_tp_push_B3
  refine wt_H_if (fun c => ?_) (fun c => ?_)
  · have c' := wt_clt c
    have e : b = 4 := by omega
    subst e
    exact wt_H_some ⟨f, b3, b4, b5⟩
  · have c' := wt_ncl c
    have es : s.1 = nI (24 - 8 * b) := wt_eqI (by rw [nI_toInt (by omega)]; omega)
    have ed := wt_d8 (c := s.1) (by omega)
    refine wt_H_bh (wh_put n (k := k + b) b3 (by rw [wt_ln2]; omega)) (fun q hq => ?_)
    have fq := wt_fr_sa hq
    have eq2 : wt_gf q 1 2 = wt_gf s.2 1 2 := fq.1 1 2 (fun h => h)
    rw [eq2]
    have ei := wt_i1 (c := wt_gf s.2 1 2) (by omega)
    obtain ⟨s1, ε1⟩ : ∃ o : wt_St, o = wt_sf q 1 2 ((wt_gf s.2 1 2) + (1 : Int32)) := ⟨_, rfl⟩
    rw [← ε1]
    have f1 := wt_fr_sf ε1
    refine hK _ ⟨b + 1, by omega, (show (s.1 + (-8 : Int32)).toInt = _ by rw [ed]; omega), ?_, wt_fr.tr (wt_fr.tr f fq (fun i k h => h.elim) (fun i h => h)) f1 (fun i k h => h) (fun i h => h.elim), fun b' hb' => ?_, fun j hj => ?_⟩
    · show (wt_gf s1 1 2).toInt = _
      rw [wt_v_sf ε1, ei, b3]
      omega
    · show wt_ga s1 2 (k + b') = wt_by x b'
      rw [f1.2 2 (fun h => h)]
      by_cases hc : b' = b
      · rw [hc, wt_v_sa hq, es]
        rfl
      · rw [wt_w_sa hq _ (by omega)]
        exact b4 b' (by omega)
    · show wt_ga s1 2 j = wt_ga σ 2 j
      rw [f1.2 2 (fun h => h), wt_w_sa hq _ (by omega)]
      exact b5 j (by omega)
def wt_fx (x1 x2 x3 x4 x5 : Int32) (i : Nat) : Int32 := if i < 4 then x1 else if i < 8 then x2 else if i < 12 then x3 else if i < 16 then x4 else x5
theorem wt_sh20 : ∀ i, i < 20 → (((24 : Int32) - ((8 : Int32) * (wt_rem (nI i) (4 : Int32)))) &&& 31) = nI (24 - 8 * (i % 4)) := by decide +kernel
set_option maxHeartbeats 4000000 in
theorem wh_feedA (n : Nat) {x1 x2 x3 x4 x5 : Int32} {σ : wt_St} {k : Nat} (hk : (wt_gf σ 1 2).toInt = (k : Int)) : wt_H (wp_ap_feed n x1 x2 x3 x4 x5 σ) (fun q => (480 < k ∧ q = ((-1 : Int32), σ)) ∨ (k ≤ 480 ∧ q.1.toInt = ((k + 20 : Nat) : Int) ∧ (wt_gf q.2 1 2).toInt = ((k + 20 : Nat) : Int) ∧ (∀ i, i < 20 → wt_ga q.2 2 (k + i) = wt_by (wt_fx x1 x2 x3 x4 x5 i) (i % 4)) ∧ ∀ j, j < k ∨ k + 20 ≤ j → wt_ga q.2 2 j = wt_ga σ 2 j)) := by
  have k480 : (480 : Int32).toInt = 480 := by decide
  unfold wp_ap_feed
  refine wt_H_if (fun c => ?_) (fun c => ?_)
  · have c' := wt_cle c
    refine wt_H_bh (wh_push n hk (by omega)) (fun q1 h1 => ?_)
    obtain ⟨f1, s1, v1, u1⟩ := h1
    refine wt_H_bh (wh_push n s1 (by omega)) (fun q2 h2 => ?_)
    obtain ⟨f2, s2, v2, u2⟩ := h2
    refine wt_H_bh (wh_push n s2 (by omega)) (fun q3 h3 => ?_)
    obtain ⟨f3, s3, v3, u3⟩ := h3
    refine wt_H_bh (wh_push n s3 (by omega)) (fun q4 h4 => ?_)
    obtain ⟨f4, s4, v4, u4⟩ := h4
    refine wt_H_bh (wh_push n s4 (by omega)) (fun q5 h5 => ?_)
    obtain ⟨f5, s5, v5, u5⟩ := h5
    refine wt_H_some (Or.inr ⟨by omega, by omega, by omega, fun i hi => ?_, fun j hj => ?_⟩)
    · show wt_ga q5 2 (k + i) = _
      unfold wt_fx
      by_cases d1 : i < 4
      · rw [if_pos d1, u5 _ (by omega), u4 _ (by omega), u3 _ (by omega), u2 _ (by omega), show i % 4 = i by omega]
        exact v1 i d1
      · rw [if_neg d1]
        by_cases d2 : i < 8
        · rw [if_pos d2, u5 _ (by omega), u4 _ (by omega), u3 _ (by omega), show i % 4 = i - 4 by omega, ← v2 (i - 4) (by omega), show k + 4 + (i - 4) = k + i by omega]
        · rw [if_neg d2]
          by_cases d3 : i < 12
          · rw [if_pos d3, u5 _ (by omega), u4 _ (by omega), show i % 4 = i - 8 by omega, ← v3 (i - 8) (by omega), show k + 4 + 4 + (i - 8) = k + i by omega]
          · rw [if_neg d3]
            by_cases d4 : i < 16
            · rw [if_pos d4, u5 _ (by omega), show i % 4 = i - 12 by omega, ← v4 (i - 12) (by omega), show k + 4 + 4 + 4 + (i - 12) = k + i by omega]
            · rw [if_neg d4, show i % 4 = i - 16 by omega, ← v5 (i - 16) (by omega), show k + 4 + 4 + 4 + 4 + (i - 16) = k + i by omega]
    · show wt_ga q5 2 j = _
      rw [u5 _ (by omega), u4 _ (by omega), u3 _ (by omega), u2 _ (by omega), u1 _ (by omega)]
  · have c' := wt_ncle c
    exact wt_H_some (Or.inl ⟨by omega, rfl⟩)
set_option maxHeartbeats 4000000 in
theorem wh_feedM (n : Nat) {x1 x2 x3 x4 x5 : Int32} {σ : wt_St} {k : Nat} (hk : (wt_gf σ 108 1).toInt = (k : Int)) (hk5 : k ≤ 500) : wt_H (wp_md_feed n x1 x2 x3 x4 x5 σ) (fun q => (480 < k ∧ q.1 = (-1 : Int32) ∧ wt_gf q.2 108 1 = wt_gf σ 108 1 ∧ ∀ j, wt_ga q.2 109 j = wt_ga σ 109 j) ∨ (k ≤ 480 ∧ q.1.toInt = ((k + 20 : Nat) : Int) ∧ (wt_gf q.2 108 1).toInt = ((k + 20 : Nat) : Int) ∧ (∀ i, i < 20 → wt_ga q.2 109 (k + i) = wt_by (wt_fx x1 x2 x3 x4 x5 i) (i % 4)) ∧ ∀ j, j < k ∨ k + 20 ≤ j → wt_ga q.2 109 j = wt_ga σ 109 j)) := by
  have k0 : (0 : Int32).toInt = 0 := by decide
  have k20 : (20 : Int32).toInt = 20 := by decide
  have k4 : (4 : Int32).toInt = 4 := by decide
  have k8 : (8 : Int32).toInt = 8 := by decide
  have k12 : (12 : Int32).toInt = 12 := by decide
  have k16 : (16 : Int32).toInt = 16 := by decide
  have k500 : (500 : Int32).toInt = 500 := by decide
  unfold wp_md_feed
  obtain ⟨z0, ε0⟩ : ∃ o : wt_St, o = wt_sf σ 108 0 (0 : Int32) := ⟨_, rfl⟩
  rw [← ε0]
  have g0 := wt_fr_sf ε0
  have e1 : wt_gf z0 108 1 = wt_gf σ 108 1 := g0.1 108 1 (by (try dsimp only); omega)
  rw [e1]
  have ea := wt_addE (x := wt_gf σ 108 1) (y := (20 : Int32)) (by omega) (by omega)
  refine wt_H_if (fun c => ?_) (fun c => ?_)
  · have c' := wt_cle c
    refine wt_H_it (fun s : Int32 × wt_St => ∃ i : Nat, i ≤ 20 ∧ s.1.toInt = (i : Int) ∧ (wt_gf s.2 108 1).toInt = ((k + i : Nat) : Int) ∧ (∀ i', i' < i → wt_ga s.2 109 (k + i') = wt_by (wt_fx x1 x2 x3 x4 x5 i') (i' % 4)) ∧ ∀ j, j < k ∨ k + i ≤ j → wt_ga s.2 109 j = wt_ga σ 109 j) (fun K s I hK => ?_) n _ ⟨0, by omega, k0, by rw [Nat.add_zero]; show (wt_gf z0 108 1).toInt = _; rw [e1]; exact hk, fun i' h => absurd h (by omega), fun j _ => g0.2 109 (fun h => h) j⟩
    obtain ⟨i, i1, i2, i3, i4, i5⟩ := I
    have E : ∀ y : Int32, i < 20 → y = wt_fx x1 x2 x3 x4 x5 i → wt_H (wp_md_feed_B76 n x1 x2 x3 x4 x5 s.1 K y s.2) (fun q => (480 < k ∧ q.1 = (-1 : Int32) ∧ wt_gf q.2 108 1 = wt_gf σ 108 1 ∧ ∀ j, wt_ga q.2 109 j = wt_ga σ 109 j) ∨ (k ≤ 480 ∧ q.1.toInt = ((k + 20 : Nat) : Int) ∧ (wt_gf q.2 108 1).toInt = ((k + 20 : Nat) : Int) ∧ (∀ i, i < 20 → wt_ga q.2 109 (k + i) = wt_by (wt_fx x1 x2 x3 x4 x5 i) (i % 4)) ∧ ∀ j, j < k ∨ k + 20 ≤ j → wt_ga q.2 109 j = wt_ga σ 109 j)) := by
      intro y hi hy
      have es : s.1 = nI i := wt_eqI (by rw [nI_toInt (by omega)]; exact i2)
      have ei := wt_i1 (c := s.1) (by omega)
      unfold wp_md_feed_B76
      refine wt_H_gd (fun _ => ?_)
      rw [wt_tnN (m := k + i) i3]
      have hsh : (y >>> (((24 : Int32) - ((8 : Int32) * (wt_rem s.1 (4 : Int32)))) &&& 31)) &&& (255 : Int32) = wt_by (wt_fx x1 x2 x3 x4 x5 i) (i % 4) := by
        rw [es, wt_sh20 i hi, hy]
        exact wt_byM _ (by omega)
      rw [hsh]
      obtain ⟨s1, ε1⟩ : ∃ o : wt_St, o = wt_sa s.2 109 (k + i) (wt_by (wt_fx x1 x2 x3 x4 x5 i) (i % 4)) := ⟨_, rfl⟩
      rw [← ε1]
      have f1 := wt_fr_sa ε1
      have e2 : wt_gf s1 108 1 = wt_gf s.2 108 1 := f1.1 108 1 (fun h => h)
      rw [e2]
      have ej := wt_i1 (c := wt_gf s.2 108 1) (by omega)
      obtain ⟨s2, ε2⟩ : ∃ o : wt_St, o = wt_sf s1 108 1 ((wt_gf s.2 108 1) + (1 : Int32)) := ⟨_, rfl⟩
      rw [← ε2]
      have f2 := wt_fr_sf ε2
      refine hK _ ⟨i + 1, by omega, (show (s.1 + (1 : Int32)).toInt = _ by omega), ?_, fun i' hi' => ?_, fun j hj => ?_⟩
      · show (wt_gf s2 108 1).toInt = _
        rw [wt_v_sf ε2, ej, i3]
        omega
      · show wt_ga s2 109 (k + i') = _
        rw [f2.2 109 (fun h => h)]
        by_cases hc : i' = i
        · rw [hc, wt_v_sa ε1]
        · rw [wt_w_sa ε1 _ (by omega)]
          exact i4 i' (by omega)
      · show wt_ga s2 109 j = _
        rw [f2.2 109 (fun h => h), wt_w_sa ε1 _ (by omega)]
        exact i5 j (by omega)
    unfold wp_md_feed_B23
    refine wt_H_if (fun d => ?_) (fun d => ?_)
    · have d' := wt_cle d
      have e : i = 20 := by omega
      subst e
      exact wt_H_some (Or.inr ⟨by omega, i3, i3, i4, i5⟩)
    · have d' := wt_ncle d
      refine wt_H_if (fun a1 => ?_) (fun a1 => ?_)
      · have a1' := wt_cle a1
        refine wt_H_if (fun a2 => ?_) (fun a2 => ?_)
        · have a2' := wt_cle a2
          refine wt_H_if (fun a3 => ?_) (fun a3 => ?_)
          · have a3' := wt_cle a3
            refine wt_H_if (fun a4 => ?_) (fun a4 => ?_)
            · have a4' := wt_cle a4
              exact E _ (by omega) (by unfold wt_fx; rw [if_neg (by omega), if_neg (by omega), if_neg (by omega), if_neg (by omega)])
            · have a4' := wt_ncle a4
              exact E _ (by omega) (by unfold wt_fx; rw [if_neg (by omega), if_neg (by omega), if_neg (by omega), if_pos (by omega)])
          · have a3' := wt_ncle a3
            exact E _ (by omega) (by unfold wt_fx; rw [if_neg (by omega), if_neg (by omega), if_pos (by omega)])
        · have a2' := wt_ncle a2
          exact E _ (by omega) (by unfold wt_fx; rw [if_neg (by omega), if_pos (by omega)])
      · have a1' := wt_ncle a1
        exact E _ (by omega) (by unfold wt_fx; rw [if_pos (by omega)])
  · have c' := wt_ncle c
    exact wt_H_some (Or.inl ⟨by omega, rfl, e1, fun j => g0.2 109 (fun h => h) j⟩)
/-- feed answers alike, and leaves the same bytes -/
theorem wr_feed (n : Nat) {x1 x2 x3 x4 x5 : Int32} {s z : wt_St} (tb : wt_TB s z) (hz : 0 ≤ (wt_gf z 108 1).toInt ∧ (wt_gf z 108 1).toInt ≤ 500) : wt_HH (wp_ap_feed n x1 x2 x3 x4 x5 s) (wp_md_feed n x1 x2 x3 x4 x5 z) (fun q y => q.1 = y.1 ∧ wt_TB q.2 y.2) := by
  have hk := wt_tnI hz.1
  have e := wt_ceq tb.2
  refine wt_HH_of (wh_feedA n (k := Int32.toNatClampNeg (wt_gf z 108 1)) (by omega)) (wh_feedM n (k := Int32.toNatClampNeg (wt_gf z 108 1)) (by omega) (by omega)) (fun q y hq hy => ?_)
  rcases hq with ⟨a, a2⟩ | ⟨a, a2, a3, a4, a5⟩
  · rcases hy with ⟨b, b2, b3, b4⟩ | ⟨b, -⟩
    · subst a2
      exact ⟨b2.symm, fun j hj => (tb.1 j hj).trans (b4 j).symm, tb.2.trans b3.symm⟩
    · omega
  · rcases hy with ⟨b, -⟩ | ⟨b, b2, b3, b4, b5⟩
    · omega
    · refine ⟨wt_eqI (by omega), fun j hj => ?_, wt_eqI (by omega)⟩
      by_cases c : j < Int32.toNatClampNeg (wt_gf z 108 1) ∨ Int32.toNatClampNeg (wt_gf z 108 1) + 20 ≤ j
      · rw [a5 j c, b5 j c]
        exact tb.1 j hj
      · have h1 := a4 (j - Int32.toNatClampNeg (wt_gf z 108 1)) (by omega)
        have h2 := b4 (j - Int32.toNatClampNeg (wt_gf z 108 1)) (by omega)
        rw [show Int32.toNatClampNeg (wt_gf z 108 1) + (j - Int32.toNatClampNeg (wt_gf z 108 1)) = j by omega] at h1 h2
        rw [h1, h2]
end WTQ7
