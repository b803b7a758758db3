/-- what may stand at a place of a kept row -/
def wt_kp (j : Nat) (v : Int) : Prop := (j = 1 → 0 ≤ v ∧ v ≤ 10) ∧ (2 ≤ j → j < 678 → j % 2 = 0 → 0 ≤ v ∧ v ≤ 400) ∧ (678 ≤ j → j < 1118 → (j - 678) % 110 = 0 → -1 ≤ v ∧ v ≤ 7) ∧ (678 ≤ j → j < 1118 → (j - 678) % 110 = 1 → 0 ≤ v ∧ v ≤ 108) ∧ (678 ≤ j → j < 1118 → 2 ≤ (j - 678) % 110 → 0 ≤ v ∧ v ≤ 337) ∧ (1118 ≤ j → (j - 1118) % 4 = 0 → 0 ≤ v ∧ v ≤ 7) ∧ (1118 ≤ j → (j - 1118) % 4 = 1 → 0 ≤ v ∧ v ≤ 400)
theorem wt_ln_k (a1 : Nat) (h1 : 283 ≤ a1) (h2 : a1 < 286) : wt_ln a1 = 1158 := by
  have : a1 = 283 ∨ a1 = 284 ∨ a1 = 285 := by omega
  rcases this with h | h | h <;> subst h <;> decide
set_option maxRecDepth 100000 in
set_option maxHeartbeats 4000000 in
theorem wq_md_moves (n : Nat) (hn : 4294967297 < n) (a1 : Nat) (x2 x3 : Int32) (σ : wt_St) (r0 : wt_RI σ) (h1 : 283 ≤ a1) (h2 : a1 < 286) (p0 : 0 ≤ (wt_gf σ 108 42).toInt) (p1 : (wt_gf σ 108 42).toInt < 1158) : wt_T (wp_md_moves n a1 x2 x3 σ) (fun q => wt_fr (fun i k => i = 108 ∧ k = 42) (fun i => i = a1) σ q.2 ∧ wt_RI q.2 ∧ (wt_gf q.2 108 42).toInt = (wt_gf σ 108 42).toInt + 1 ∧ q.1 = wt_ga q.2 a1 (Int32.toNatClampNeg (wt_gf σ 108 42)) ∧ (∀ j, j ≠ Int32.toNatClampNeg (wt_gf σ 108 42) → wt_ga q.2 a1 j = wt_ga σ a1 j) ∧ (x3.toInt = 0 → q.1 = x2) ∧ (x3.toInt ≠ 0 → wt_ga q.2 a1 (Int32.toNatClampNeg (wt_gf σ 108 42)) = wt_ga σ a1 (Int32.toNatClampNeg (wt_gf σ 108 42)))) := by
  have k0 : (0 : Int32).toInt = 0 := by decide
  have k1 : (1 : Int32).toInt = 1 := by decide
  have hl := wt_ln_k a1 h1 h2
  have B : ∀ s : wt_St, wt_RI s → wt_gf s 108 42 = wt_gf σ 108 42 → wt_T (wp_md_moves_B11 n a1 s) (fun q => wt_fr (fun i k => i = 108 ∧ k = 42) (fun _ => False) s q.2 ∧ wt_RI q.2 ∧ (wt_gf q.2 108 42).toInt = (wt_gf σ 108 42).toInt + 1 ∧ q.1 = wt_ga s a1 (Int32.toNatClampNeg (wt_gf σ 108 42))) := by
    intro s rs es
    unfold wp_md_moves_B11
    obtain ⟨σ1, ε1⟩ : ∃ o : wt_St, o = wt_sf s 108 42 ((wt_gf s 108 42) + (1 : Int32)) := ⟨_, rfl⟩
    rw [← ε1]
    have f1 := wt_fr_sf ε1
    have v1 := wt_ceq (wt_v_sf ε1)
    have ei := wt_i1 (c := wt_gf s 108 42) (by rw [es]; omega)
    have es1 := wt_subE (x := wt_gf σ1 108 42) (y := (1 : Int32)) (by rw [v1, ei, es]; omega) (by rw [v1, ei, es]; omega)
    have ee : (wt_gf σ1 108 42) - (1 : Int32) = wt_gf σ 108 42 := wt_eqI (by rw [es1, v1, ei, es]; omega)
    rw [ee]
    refine wt_T_gd (wt_ix (by omega) (by omega)) ?_
    refine wt_T_some ⟨f1, wt_RI_fno rs ε1 (Or.inr (by decide +kernel)), (show (wt_gf σ1 108 42).toInt = _ by rw [v1, ei, es]), f1.2 a1 (fun h => h) _⟩
  unfold wp_md_moves
  refine wt_T_if (fun h => ?_) (fun h => ?_)
  · have c := wt_ceq h
    refine wt_T_gd (wt_ix (by omega) (by omega)) ?_
    obtain ⟨σ1, ε1⟩ : ∃ o : wt_St, o = wt_sa σ a1 (Int32.toNatClampNeg (wt_gf σ 108 42)) x2 := ⟨_, rfl⟩
    rw [← ε1]
    have f1 := wt_fr_sa ε1
    refine wt_T.imp (B σ1 (wt_RI_no r0 ε1 283 286 (by decide +kernel) h1 h2) (f1.1 108 42 (fun h => h))) (fun q hq => ?_)
    obtain ⟨fq, rq, sq, vq⟩ := hq
    have vv : wt_ga q.2 a1 (Int32.toNatClampNeg (wt_gf σ 108 42)) = x2 := (fq.2 a1 (fun h => h) _).trans (wt_v_sa ε1)
    refine ⟨wt_fr.tr (wt_fr.tr wt_fr.rf f1 (fun i k (h : False) => h.elim) (fun i h => h)) fq (fun i k h => h) (fun i (h : False) => h.elim), rq, sq, ?_, fun j hj => ?_, fun _ => ?_, fun hne => absurd (c.trans k0) hne⟩
    · rw [vv, vq, wt_v_sa ε1]
    · rw [fq.2 a1 (fun h => h) j, wt_w_sa ε1 j hj]
    · rw [vq, wt_v_sa ε1]
  · have c := wt_nceq h
    refine wt_T.imp (B σ r0 rfl) (fun q hq => ?_)
    obtain ⟨fq, rq, sq, vq⟩ := hq
    refine ⟨wt_fr.tr wt_fr.rf fq (fun i k h => h) (fun i (h : False) => h.elim), rq, sq, ?_, fun j _ => fq.2 a1 (fun h => h) j, fun hz => absurd (hz.trans k0.symm) c, fun _ => fq.2 a1 (fun h => h) _⟩
    rw [vq, fq.2 a1 (fun h => h)]
/-- a kept row and the model while pieces move: p places are done -/
def wt_KM (a1 : Nat) (x2 : Int32) (σ s : wt_St) (p : Nat) : Prop := wt_RI s ∧ (wt_gf s 108 42).toInt = (p : Int) ∧ (∀ j, j < p → wt_kp j (wt_ga s a1 j).toInt) ∧ (x2.toInt ≠ 0 → ∀ j, wt_ga s a1 j = wt_ga σ a1 j) ∧ (x2.toInt = 0 → (∀ i, i ≠ a1 → ∀ j, wt_ga s i j = wt_ga σ i j) ∧ ∀ i k, ¬ (i = 108 ∧ k = 42) → wt_gf s i k = wt_gf σ i k)
set_option maxRecDepth 100000 in
set_option maxHeartbeats 4000000 in
theorem wq_md_move1 (n : Nat) (hn : 4294967297 < n) (a1 : Nat) (x2 : Int32) (σ s : wt_St) (p i j0 : Nat) (h1 : 283 ≤ a1) (h2 : a1 < 286) (km : wt_KM a1 x2 σ s p) (hk : x2.toInt ≠ 0 → ∀ j, j < 1158 → wt_kp j (wt_ga σ a1 j).toInt) (hp : p < 1158) (hi : i ≠ a1) (h0 : wt_kp p (wt_ga s i j0).toInt) (hr : ∀ (s1 s' : wt_St) (v : Int32), wt_RI s1 → wt_kp p v.toInt → s' = wt_sa s1 i j0 v → wt_RI s') : wt_T (wp_md_moves n a1 (wt_ga s i j0) x2 s) (fun q => ∀ s', s' = wt_sa q.2 i j0 q.1 → wt_KM a1 x2 σ s' (p + 1) ∧ wt_ga s' i j0 = wt_ga s' a1 p ∧ (∀ i', i' ≠ a1 → i' ≠ i → ∀ j, wt_ga s' i' j = wt_ga s i' j) ∧ (∀ j, j ≠ j0 → wt_ga s' i j = wt_ga s i j) ∧ (∀ j, j < p → wt_ga s' a1 j = wt_ga s a1 j) ∧ wt_fr (fun i k => i = 108 ∧ k = 42) (fun i' => i' = a1 ∨ i' = i) s s') := by
  obtain ⟨rs, sp, kp, kr, ks⟩ := km
  have hsp : Int32.toNatClampNeg (wt_gf s 108 42) = p := wt_tnN sp
  refine wt_T.imp (wq_md_moves n hn a1 (wt_ga s i j0) x2 s rs h1 h2 (by omega) (by omega)) (fun q hq s' es => ?_)
  rw [hsp] at hq
  obtain ⟨fq, rq, sq, vq, wq, zq, nq⟩ := hq
  have f1 := wt_fr_sa es
  have hv : wt_kp p q.1.toInt := by
    by_cases hz : x2.toInt = 0
    · rw [zq hz]; exact h0
    · rw [vq, nq hz, kr hz]; exact hk hz p hp
  have a1s : ∀ j, wt_ga s' a1 j = wt_ga q.2 a1 j := f1.2 a1 (fun h => hi h.symm)
  have fr2 : wt_fr (fun i k => i = 108 ∧ k = 42) (fun i' => i' = a1 ∨ i' = i) s s' := wt_fr.tr (wt_fr.tr wt_fr.rf fq (fun i k h => h) (fun i h => Or.inl h)) f1 (fun i k (h : False) => h.elim) (fun i h => Or.inr h)
  refine ⟨⟨hr q.2 s' q.1 rq hv es, ?_, fun j hj => ?_, fun hz j => ?_, fun hz => ⟨fun i' hi' j => ?_, fun i' k hk' => ?_⟩⟩, ?_, fun i' hi1 hi2 j => fr2.2 i' (fun h => h.elim hi1 hi2) j, fun j hj => ?_, fun j hj => ?_, fr2⟩
  · rw [f1.1 108 42 (fun h => h), sq, sp]
    rfl
  · rw [a1s]
    by_cases hc : j = p
    · rw [hc, ← vq]; exact hv
    · rw [wq j hc]; exact kp j (by omega)
  · rw [a1s]
    by_cases hc : j = p
    · rw [hc, nq hz]; exact kr hz p
    · rw [wq j hc]; exact kr hz j
  · by_cases hc : i' = i
    · subst hc
      by_cases hd : j = j0
      · subst hd
        rw [wt_v_sa es, zq hz]
        exact (ks hz).1 _ hi' _
      · rw [wt_w_sa es j hd, fq.2 _ hi' j]
        exact (ks hz).1 _ hi' _
    · rw [f1.2 i' hc j, fq.2 i' hi' j]
      exact (ks hz).1 _ hi' _
  · rw [f1.1 i' k (fun h => h), fq.1 i' k hk']
    exact (ks hz).2 i' k hk'
  · rw [wt_v_sa es, a1s, vq]
  · rw [wt_w_sa es j hj, fq.2 i hi j]
  · rw [a1s, wq j (by omega)]
set_option maxRecDepth 100000 in
set_option maxHeartbeats 4000000 in
theorem wq_md_move1F (n : Nat) (hn : 4294967297 < n) (a1 : Nat) (x2 : Int32) (σ s : wt_St) (p kf : Nat) (h1 : 283 ≤ a1) (h2 : a1 < 286) (km : wt_KM a1 x2 σ s p) (hk : x2.toInt ≠ 0 → ∀ j, j < 1158 → wt_kp j (wt_ga σ a1 j).toInt) (hp : p < 1158) (hkf : kf ≠ 42) (h0 : wt_kp p (wt_gf s 108 kf).toInt) (hr : ∀ (s1 s' : wt_St) (v : Int32), wt_RI s1 → wt_kp p v.toInt → s' = wt_sf s1 108 kf v → wt_RI s') : wt_T (wp_md_moves n a1 (wt_gf s 108 kf) x2 s) (fun q => ∀ s', s' = wt_sf q.2 108 kf q.1 → wt_KM a1 x2 σ s' (p + 1) ∧ wt_fr (fun i k => i = 108 ∧ (k = 42 ∨ k = kf)) (fun i' => i' = a1) s s') := by
  obtain ⟨rs, sp, kp, kr, ks⟩ := km
  have hsp : Int32.toNatClampNeg (wt_gf s 108 42) = p := wt_tnN sp
  refine wt_T.imp (wq_md_moves n hn a1 (wt_gf s 108 kf) x2 s rs h1 h2 (by omega) (by omega)) (fun q hq s' es => ?_)
  rw [hsp] at hq
  obtain ⟨fq, rq, sq, vq, wq, zq, nq⟩ := hq
  have f1 := wt_fr_sf es
  have hv : wt_kp p q.1.toInt := by
    by_cases hz : x2.toInt = 0
    · rw [zq hz]; exact h0
    · rw [vq, nq hz, kr hz]; exact hk hz p hp
  have a1s : ∀ j, wt_ga s' a1 j = wt_ga q.2 a1 j := f1.2 a1 (fun h => h)
  refine ⟨⟨hr q.2 s' q.1 rq hv es, ?_, fun j hj => ?_, fun hz j => ?_, fun hz => ⟨fun i' hi' j => ?_, fun i' k hk' => ?_⟩⟩, wt_fr.tr (wt_fr.tr wt_fr.rf fq (fun i k h => ⟨h.1, Or.inl h.2⟩) (fun i h => h)) f1 (fun i k h => ⟨h.1, Or.inr h.2⟩) (fun i (h : False) => h.elim)⟩
  · rw [f1.1 108 42 (fun h => hkf h.2.symm), sq, sp]
    rfl
  · rw [a1s]
    by_cases hc : j = p
    · rw [hc, ← vq]; exact hv
    · rw [wq j hc]; exact kp j (by omega)
  · rw [a1s]
    by_cases hc : j = p
    · rw [hc, nq hz]; exact kr hz p
    · rw [wq j hc]; exact kr hz j
  · rw [f1.2 i' (fun h => h) j, fq.2 i' hi' j]
    exact (ks hz).1 _ hi' _
  · by_cases hc : i' = 108 ∧ k = kf
    · obtain ⟨rfl, rfl⟩ := hc
      rw [wt_v_sf es, zq hz]
      exact (ks hz).2 _ _ hk'
    · rw [f1.1 i' k hc, fq.1 i' k hk']
      exact (ks hz).2 i' k hk'
/-- a page and its places in a kept row -/
def wt_EQ (a1 : Nat) (s : wt_St) (g : Nat) : Prop := wt_ga s 275 g = wt_ga s a1 (678 + 110 * g) ∧ wt_ga s 276 g = wt_ga s a1 (679 + 110 * g) ∧ ∀ k, k < 108 → wt_ga s (278 + g) k = wt_ga s a1 (680 + 110 * g + k)
theorem wt_EQ_keep {a1 : Nat} {s s' : wt_St} {g p : Nat} (h : wt_EQ a1 s g) (hp : 788 + 110 * g ≤ p) (hrow : ∀ j, j < p → wt_ga s' a1 j = wt_ga s a1 j) (h1 : wt_ga s' 275 g = wt_ga s 275 g) (h2 : wt_ga s' 276 g = wt_ga s 276 g) (h3 : ∀ k, wt_ga s' (278 + g) k = wt_ga s (278 + g) k) : wt_EQ a1 s' g := by
  refine ⟨?_, ?_, fun k hk => ?_⟩
  · rw [h1, hrow _ (by omega)]; exact h.1
  · rw [h2, hrow _ (by omega)]; exact h.2.1
  · rw [h3, hrow _ (by omega)]; exact h.2.2 k hk
def wt_mA (a1 i : Nat) : Prop := i = a1 ∨ i = 121 ∨ i = 124 ∨ i = 275 ∨ i = 276 ∨ (278 ≤ i ∧ i < 282) ∨ (264 ≤ i ∧ i < 274)
def wt_mF (i k : Nat) : Prop := i = 108 ∧ (k = 42 ∨ k = 26 ∨ k = 40)
set_option maxRecDepth 100000 in
set_option maxHeartbeats 4000000 in
theorem wq_md_movesAll_w (n : Nat) (hn : 4294967297 < n) (a1 : Nat) (x2 : Int32) (σ : wt_St) (h1 : 283 ≤ a1) (h2 : a1 < 286) (hk : x2.toInt ≠ 0 → ∀ j, j < 1158 → wt_kp j (wt_ga σ a1 j).toInt) (s0 : wt_St) (km : wt_KM a1 x2 σ s0 1118) (fr : wt_fr wt_mF (wt_mA a1) σ s0) (eq : ∀ g, g < 4 → wt_EQ a1 s0 g) : wt_T (wt_it (wp_md_movesAll_B175 n a1 x2) n ((0 : Int32), s0)) (fun q => wt_KM a1 x2 σ q 1158 ∧ wt_fr wt_mF (wt_mA a1) σ q ∧ ∀ g, g < 4 → wt_EQ a1 q g) := by
  have k0 : (0 : Int32).toInt = 0 := by decide
  have k4 : (4 : Int32).toInt = 4 := by decide
  have k10 : (10 : Int32).toInt = 10 := by decide
  refine wt_T_it (fun s : Int32 × wt_St => 0 ≤ s.1.toInt ∧ s.1.toInt ≤ 10 ∧ wt_KM a1 x2 σ s.2 (1118 + 4 * Int32.toNatClampNeg s.1) ∧ wt_fr wt_mF (wt_mA a1) σ s.2 ∧ ∀ g, g < 4 → wt_EQ a1 s.2 g) (fun s => (10 - s.1.toInt).toNat) (fun K z hI hK => ?_) n _ ?_ ?_
  · obtain ⟨l1, l2, kz, fz, ez⟩ := hI
    have et := wt_tnI l1
    unfold wp_md_movesAll_B175
    refine wt_T_if (fun h => ?_) (fun h => ?_)
    · have c := wt_cle h
      refine wt_T_some ⟨?_, fz, ez⟩
      rw [show 1158 = 1118 + 4 * Int32.toNatClampNeg z.1 by omega]
      exact kz
    · have c := wt_ncle h
      have ei := wt_i1 (c := z.1) (by omega)
      refine wt_T_it (fun s : Int32 × wt_St => 0 ≤ s.1.toInt ∧ s.1.toInt ≤ 4 ∧ wt_KM a1 x2 σ s.2 (1118 + 4 * Int32.toNatClampNeg z.1 + Int32.toNatClampNeg s.1) ∧ wt_fr wt_mF (wt_mA a1) σ s.2 ∧ ∀ g, g < 4 → wt_EQ a1 s.2 g) (fun s => (4 - s.1.toInt).toNat) (fun K2 y hJ hK2 => ?_) n _ ?_ ?_
      · obtain ⟨m1, m2, ky, fy, ey⟩ := hJ
        have em := wt_tnI m1
        unfold wp_md_movesAll_B184
        refine wt_T_if (fun h3 => ?_) (fun h3 => ?_)
        · have c3 := wt_cle h3
          refine hK _ ⟨(show 0 ≤ (z.1 + (1 : Int32)).toInt by omega), (show (z.1 + (1 : Int32)).toInt ≤ 10 by omega), ?_, fy, ey⟩ (show (10 - (z.1 + (1 : Int32)).toInt).toNat < (10 - z.1.toInt).toNat by omega)
          show wt_KM a1 x2 σ y.2 (1118 + 4 * Int32.toNatClampNeg (z.1 + (1 : Int32)))
          rw [wt_tn_i1 l1 (by omega), show 1118 + 4 * (Int32.toNatClampNeg z.1 + 1) = 1118 + 4 * Int32.toNatClampNeg z.1 + Int32.toNatClampNeg y.1 by omega]
          exact ky
        · have c3 := wt_ncle h3
          have ej := wt_i1 (c := y.1) (by omega)
          refine wt_T_gd (wt_ix (by omega) (by omega)) ?_
          refine wt_T_gd (wt_ix (by omega) (by omega)) ?_
          refine wt_T_gd (wt_ix (by omega) (by omega)) ?_
          have gz := ky.1.2.2 (264 + Int32.toNatClampNeg z.1) (by omega) (by omega)
          refine wt_T_bi (wq_md_move1 n hn a1 x2 σ y.2 (1118 + 4 * Int32.toNatClampNeg z.1 + Int32.toNatClampNeg y.1) (264 + Int32.toNatClampNeg z.1) (Int32.toNatClampNeg y.1) h1 h2 ky hk (by omega) (by omega) ?_ ?_) (fun q hq => ?_)
          · have hy4 : Int32.toNatClampNeg y.1 < 4 := by omega
            generalize Int32.toNatClampNeg y.1 = f at *
            have : f = 0 ∨ f = 1 ∨ f = 2 ∨ f = 3 := by omega
            rcases this with rfl | rfl | rfl | rfl
            · exact ⟨by intros; omega, by intros; omega, by intros; omega, by intros; omega, by intros; omega, by intros; omega, by intros; omega⟩
            · exact ⟨by intros; omega, by intros; omega, by intros; omega, by intros; omega, by intros; omega, by intros; omega, by intros; omega⟩
            · exact ⟨by intros; omega, by intros; omega, by intros; omega, by intros; omega, by intros; omega, by intros; omega, by intros; omega⟩
            · exact ⟨by intros; omega, by intros; omega, by intros; omega, by intros; omega, by intros; omega, by intros; omega, by intros; omega⟩
          · intro s1 s' v r1 hv es
            exact wt_RI_w r1 es (by omega) (by omega) (fun hf => hv.2.2.2.2.2.1 (by omega) (by omega)) (fun hf => hv.2.2.2.2.2.2 (by omega) (by omega))
          · refine wt_T_gd (wt_ix (by omega) (by omega)) ?_
            obtain ⟨kq, -, oq, -, wq, fq⟩ := hq _ rfl
            refine hK2 _ ⟨(show 0 ≤ (y.1 + (1 : Int32)).toInt by omega), (show (y.1 + (1 : Int32)).toInt ≤ 4 by omega), ?_, wt_fr.tr fy fq (fun i k h => ⟨h.1, Or.inl h.2⟩) (fun i h => by unfold wt_mA; omega), fun g hg => wt_EQ_keep (p := 1118 + 4 * Int32.toNatClampNeg z.1 + Int32.toNatClampNeg y.1) (ey g hg) (by omega) wq (oq 275 (by omega) (by omega) g) (oq 276 (by omega) (by omega) g) (oq (278 + g) (by omega) (by omega))⟩ (show (4 - (y.1 + (1 : Int32)).toInt).toNat < (4 - y.1.toInt).toNat by omega)
            have e1 : Int32.toNatClampNeg (y.1 + (1 : Int32)) = Int32.toNatClampNeg y.1 + 1 := wt_tn_i1 m1 (by omega)
            rw [show 1118 + 4 * Int32.toNatClampNeg z.1 + Int32.toNatClampNeg (y.1 + (1 : Int32)) = 1118 + 4 * Int32.toNatClampNeg z.1 + Int32.toNatClampNeg y.1 + 1 by omega]
            exact kq
      · refine ⟨(show 0 ≤ (0 : Int32).toInt by omega), (show (0 : Int32).toInt ≤ 4 by omega), ?_, fz, ez⟩
        show wt_KM a1 x2 σ z.2 (1118 + 4 * Int32.toNatClampNeg z.1 + Int32.toNatClampNeg (0 : Int32))
        rw [wt_tn0]
        exact kz
      · show (4 - (0 : Int32).toInt).toNat < n
        omega
  · refine ⟨(show 0 ≤ (0 : Int32).toInt by omega), (show (0 : Int32).toInt ≤ 10 by omega), ?_, fr, eq⟩
    show wt_KM a1 x2 σ s0 (1118 + 4 * Int32.toNatClampNeg (0 : Int32))
    rw [wt_tn0]
    exact km
  · show (10 - (0 : Int32).toInt).toNat < n
    omega
set_option maxRecDepth 100000 in
set_option maxHeartbeats 4000000 in
theorem wq_md_movesAll_p (n : Nat) (hn : 4294967297 < n) (a1 : Nat) (x2 : Int32) (σ : wt_St) (h1 : 283 ≤ a1) (h2 : a1 < 286) (hk : x2.toInt ≠ 0 → ∀ j, j < 1158 → wt_kp j (wt_ga σ a1 j).toInt) (s0 : wt_St) (km : wt_KM a1 x2 σ s0 678) (fr : wt_fr wt_mF (wt_mA a1) σ s0) : wt_T (wt_it (wp_md_movesAll_B86 n a1 x2) n ((0 : Int32), s0)) (fun q => wt_KM a1 x2 σ q 1158 ∧ wt_fr wt_mF (wt_mA a1) σ q ∧ ∀ g, g < 4 → wt_EQ a1 q g) := by
  have k0 : (0 : Int32).toInt = 0 := by decide
  have k4 : (4 : Int32).toInt = 4 := by decide
  have k108 : (108 : Int32).toInt = 108 := by decide
  refine wt_T_it (fun s : Int32 × wt_St => 0 ≤ s.1.toInt ∧ s.1.toInt ≤ 4 ∧ wt_KM a1 x2 σ s.2 (678 + 110 * Int32.toNatClampNeg s.1) ∧ wt_fr wt_mF (wt_mA a1) σ s.2 ∧ ∀ g : Nat, (g : Int) < s.1.toInt → wt_EQ a1 s.2 g) (fun s => (4 - s.1.toInt).toNat) (fun K z hI hK => ?_) n _ ?_ ?_
  · obtain ⟨l1, l2, kz, fz, ez⟩ := hI
    have et := wt_tnI l1
    unfold wp_md_movesAll_B86
    refine wt_T_if (fun h => ?_) (fun h => ?_)
    · have c := wt_cle h
      refine wq_md_movesAll_w n hn a1 x2 σ h1 h2 hk z.2 ?_ fz (fun g hg => ez g (by omega))
      rw [show 1118 = 678 + 110 * Int32.toNatClampNeg z.1 by omega]
      exact kz
    · have c := wt_ncle h
      have ei := wt_i1 (c := z.1) (by omega)
      have hG : Int32.toNatClampNeg z.1 < 4 := by omega
      have eN : Int32.toNatClampNeg (z.1 + (1 : Int32)) = Int32.toNatClampNeg z.1 + 1 := wt_tn_i1 l1 (by omega)
      refine wt_T_gd (wt_ix (by omega) (by omega)) ?_
      have g1 : -1 ≤ (wt_ga z.2 275 (Int32.toNatClampNeg z.1)).toInt ∧ (wt_ga z.2 275 (Int32.toNatClampNeg z.1)).toInt ≤ 7 := wt_Ra12 kz.1 275 (by decide) (by decide) _
      refine wt_T_bi (wq_md_move1 n hn a1 x2 σ z.2 (678 + 110 * Int32.toNatClampNeg z.1) 275 (Int32.toNatClampNeg z.1) h1 h2 kz hk (by omega) (by omega) ⟨by intros; omega, by intros; omega, by intros; omega, by intros; omega, by intros; omega, by intros; omega, by intros; omega⟩ (fun s1 s' v r1 hv es => by
        have hv2 := hv.2.2.1 (by omega) (by omega) (by omega)
        exact wt_Rn12 r1 es (by decide) (by decide) hv2.1 hv2.2)) (fun qa ha => ?_)
      refine wt_T_gd (wt_ix (by omega) (by omega)) ?_
      refine wt_T_gd (wt_ix (by omega) (by omega)) ?_
      obtain ⟨σ1, ε1⟩ : ∃ o : wt_St, o = wt_sa qa.2 275 (Int32.toNatClampNeg z.1) qa.1 := ⟨_, rfl⟩
      rw [← ε1]
      obtain ⟨k1, v1, o1, w1, r1, f1⟩ := ha σ1 ε1
      have g2 : 0 ≤ (wt_ga σ1 276 (Int32.toNatClampNeg z.1)).toInt ∧ (wt_ga σ1 276 (Int32.toNatClampNeg z.1)).toInt ≤ 108 := wt_Ra13 k1.1 276 (by decide) (by decide) _
      refine wt_T_bi (wq_md_move1 n hn a1 x2 σ σ1 (678 + 110 * Int32.toNatClampNeg z.1 + 1) 276 (Int32.toNatClampNeg z.1) h1 h2 k1 hk (by omega) (by omega) ⟨by intros; omega, by intros; omega, by intros; omega, by intros; omega, by intros; omega, by intros; omega, by intros; omega⟩ (fun s1 s' v r1 hv es => by
        have hv2 := hv.2.2.2.1 (by omega) (by omega) (by omega)
        exact wt_Rn13 r1 es (by decide) (by decide) hv2.1 hv2.2)) (fun qb hb => ?_)
      refine wt_T_gd (wt_ix (by omega) (by omega)) ?_
      obtain ⟨σ2, ε2⟩ : ∃ o : wt_St, o = wt_sa qb.2 276 (Int32.toNatClampNeg z.1) qb.1 := ⟨_, rfl⟩
      rw [← ε2]
      obtain ⟨k2, v2, o2, w2, r2, f2⟩ := hb σ2 ε2
      have e275 : wt_ga σ2 275 (Int32.toNatClampNeg z.1) = wt_ga σ2 a1 (678 + 110 * Int32.toNatClampNeg z.1) := by
        rw [o2 275 (by omega) (by decide), v1, r2 _ (by omega)]
      have e276 : wt_ga σ2 276 (Int32.toNatClampNeg z.1) = wt_ga σ2 a1 (679 + 110 * Int32.toNatClampNeg z.1) := by
        rw [v2]
        congr 1
        omega
      have eo : ∀ g : Nat, (g : Int) < z.1.toInt → wt_EQ a1 σ2 g := fun g hg => by
        have k := wt_EQ_keep (p := 678 + 110 * Int32.toNatClampNeg z.1) (ez g hg) (by omega) r1 (w1 g (by omega)) (o1 276 (by omega) (by decide) g) (o1 (278 + g) (by omega) (by omega))
        exact wt_EQ_keep (p := 678 + 110 * Int32.toNatClampNeg z.1 + 1) k (by omega) r2 (o2 275 (by omega) (by decide) g) (w2 g (by omega)) (o2 (278 + g) (by omega) (by omega))
      have f02 : wt_fr wt_mF (wt_mA a1) σ σ2 := wt_fr.tr (wt_fr.tr fz f1 (fun i k h => ⟨h.1, Or.inl h.2⟩) (fun i h => by unfold wt_mA; omega)) f2 (fun i k h => ⟨h.1, Or.inl h.2⟩) (fun i h => by unfold wt_mA; omega)
      refine wt_T_it (fun s : Int32 × wt_St => 0 ≤ s.1.toInt ∧ s.1.toInt ≤ 108 ∧ wt_KM a1 x2 σ s.2 (680 + 110 * Int32.toNatClampNeg z.1 + Int32.toNatClampNeg s.1) ∧ wt_fr wt_mF (wt_mA a1) σ s.2 ∧ (∀ g : Nat, (g : Int) < z.1.toInt → wt_EQ a1 s.2 g) ∧ wt_ga s.2 275 (Int32.toNatClampNeg z.1) = wt_ga s.2 a1 (678 + 110 * Int32.toNatClampNeg z.1) ∧ wt_ga s.2 276 (Int32.toNatClampNeg z.1) = wt_ga s.2 a1 (679 + 110 * Int32.toNatClampNeg z.1) ∧ ∀ k, k < Int32.toNatClampNeg s.1 → wt_ga s.2 (278 + Int32.toNatClampNeg z.1) k = wt_ga s.2 a1 (680 + 110 * Int32.toNatClampNeg z.1 + k)) (fun s => (108 - s.1.toInt).toNat) (fun K2 y hJ hK2 => ?_) n _ ?_ ?_
      · obtain ⟨m1, m2, ky, fy, ey, y5, y6, yc⟩ := hJ
        have em := wt_tnI m1
        unfold wp_md_movesAll_B130
        refine wt_T_if (fun h3 => ?_) (fun h3 => ?_)
        · have c3 := wt_cle h3
          refine hK _ ⟨(show 0 ≤ (z.1 + (1 : Int32)).toInt by omega), (show (z.1 + (1 : Int32)).toInt ≤ 4 by omega), ?_, fy, fun g hg => ?_⟩ (show (4 - (z.1 + (1 : Int32)).toInt).toNat < (4 - z.1.toInt).toNat by omega)
          · show wt_KM a1 x2 σ y.2 (678 + 110 * Int32.toNatClampNeg (z.1 + (1 : Int32)))
            rw [eN, show 678 + 110 * (Int32.toNatClampNeg z.1 + 1) = 680 + 110 * Int32.toNatClampNeg z.1 + Int32.toNatClampNeg y.1 by omega]
            exact ky
          · have hg' : (g : Int) < (z.1 + (1 : Int32)).toInt := hg
            by_cases hc : g = Int32.toNatClampNeg z.1
            · subst hc
              exact ⟨y5, y6, fun k hk => yc k (by omega)⟩
            · exact ey g (by omega)
        · have c3 := wt_ncle h3
          have ej := wt_i1 (c := y.1) (by omega)
          have eM : Int32.toNatClampNeg (y.1 + (1 : Int32)) = Int32.toNatClampNeg y.1 + 1 := wt_tn_i1 m1 (by omega)
          refine wt_T_gd (wt_ix (by omega) (by omega)) ?_
          refine wt_T_gd (wt_ix (by omega) (by omega)) ?_
          refine wt_T_gd (wt_ix (by omega) (by omega)) ?_
          have g3 : 0 ≤ (wt_ga y.2 (278 + Int32.toNatClampNeg z.1) (Int32.toNatClampNeg y.1)).toInt ∧ (wt_ga y.2 (278 + Int32.toNatClampNeg z.1) (Int32.toNatClampNeg y.1)).toInt ≤ 337 := wt_Ra14 ky.1 (278 + Int32.toNatClampNeg z.1) (show 278 ≤ 278 + Int32.toNatClampNeg z.1 by omega) (show 278 + Int32.toNatClampNeg z.1 < 282 by omega) _
          refine wt_T_bi (wq_md_move1 n hn a1 x2 σ y.2 (680 + 110 * Int32.toNatClampNeg z.1 + Int32.toNatClampNeg y.1) (278 + Int32.toNatClampNeg z.1) (Int32.toNatClampNeg y.1) h1 h2 ky hk (by omega) (by omega) ⟨by intros; omega, by intros; omega, by intros; omega, by intros; omega, by intros; omega, by intros; omega, by intros; omega⟩ (fun s1 s' v r1 hv es => by
            have hv2 := hv.2.2.2.2.1 (by omega) (by omega) (by omega)
            exact wt_Rn14 r1 es (show 278 ≤ 278 + Int32.toNatClampNeg z.1 by omega) (show 278 + Int32.toNatClampNeg z.1 < 282 by omega) hv2.1 hv2.2)) (fun qc hc => ?_)
          refine wt_T_gd (wt_ix (by omega) (by omega)) ?_
          obtain ⟨kq, vq, oq, wq, rq, fq⟩ := hc _ rfl
          refine hK2 _ ⟨(show 0 ≤ (y.1 + (1 : Int32)).toInt by omega), (show (y.1 + (1 : Int32)).toInt ≤ 108 by omega), ?_, wt_fr.tr fy fq (fun i k h => ⟨h.1, Or.inl h.2⟩) (fun i h => by unfold wt_mA; omega), fun g hg => wt_EQ_keep (p := 680 + 110 * Int32.toNatClampNeg z.1 + Int32.toNatClampNeg y.1) (ey g hg) (by omega) rq (oq 275 (by omega) (by omega) g) (oq 276 (by omega) (by omega) g) (oq (278 + g) (by omega) (by omega)), ?_, ?_, fun k hk => ?_⟩ (show (108 - (y.1 + (1 : Int32)).toInt).toNat < (108 - y.1.toInt).toNat by omega)
          · show wt_KM a1 x2 σ _ (680 + 110 * Int32.toNatClampNeg z.1 + Int32.toNatClampNeg (y.1 + (1 : Int32)))
            rw [eM]
            exact kq
          · exact (oq 275 (by omega) (by omega) _).trans (y5.trans (rq _ (by omega)).symm)
          · exact (oq 276 (by omega) (by omega) _).trans (y6.trans (rq _ (by omega)).symm)
          · have hk' : k < Int32.toNatClampNeg (y.1 + (1 : Int32)) := hk
            by_cases hd : k = Int32.toNatClampNeg y.1
            · rw [hd]
              exact vq
            · exact (wq k hd).trans ((yc k (by omega)).trans (rq _ (by omega)).symm)
      · refine ⟨(show 0 ≤ (0 : Int32).toInt by omega), (show (0 : Int32).toInt ≤ 108 by omega), ?_, f02, eo, e275, e276, fun k hk => ?_⟩
        · show wt_KM a1 x2 σ σ2 (680 + 110 * Int32.toNatClampNeg z.1 + Int32.toNatClampNeg (0 : Int32))
          rw [wt_tn0, show 680 + 110 * Int32.toNatClampNeg z.1 + 0 = 678 + 110 * Int32.toNatClampNeg z.1 + 1 + 1 by omega]
          exact k2
        · have hk' : k < Int32.toNatClampNeg (0 : Int32) := hk
          rw [wt_tn0] at hk'
          omega
      · show (108 - (0 : Int32).toInt).toNat < n
        omega
  · refine ⟨(show 0 ≤ (0 : Int32).toInt by omega), (show (0 : Int32).toInt ≤ 4 by omega), ?_, fr, fun g hg => ?_⟩
    · show wt_KM a1 x2 σ s0 (678 + 110 * Int32.toNatClampNeg (0 : Int32))
      rw [wt_tn0]
      exact km
    · have hg' : (g : Int) < (0 : Int32).toInt := hg
      omega
  · show (4 - (0 : Int32).toInt).toNat < n
    omega
set_option maxRecDepth 100000 in
set_option maxHeartbeats 4000000 in
theorem wq_md_movesAll (n : Nat) (hn : 4294967297 < n) (a1 : Nat) (x2 : Int32) (σ : wt_St) (r0 : wt_RI σ) (h1 : 283 ≤ a1) (h2 : a1 < 286) (hk : x2.toInt ≠ 0 → ∀ j, j < 1158 → wt_kp j (wt_ga σ a1 j).toInt) : wt_T (wp_md_movesAll n a1 x2 σ) (fun q => wt_KM a1 x2 σ q 1158 ∧ wt_fr wt_mF (wt_mA a1) σ q ∧ ∀ g, g < 4 → wt_EQ a1 q g) := by
  have k0 : (0 : Int32).toInt = 0 := by decide
  have k338 : (338 : Int32).toInt = 338 := by decide
  unfold wp_md_movesAll
  obtain ⟨s0, ε0⟩ : ∃ o : wt_St, o = wt_sf σ 108 42 (0 : Int32) := ⟨_, rfl⟩
  rw [← ε0]
  have f0 := wt_fr_sf ε0
  have kz : wt_KM a1 x2 σ s0 0 := ⟨wt_RI_fno r0 ε0 (Or.inr (by decide +kernel)), (wt_ceq (wt_v_sf ε0)).trans k0, fun j hj => absurd hj (Nat.not_lt_zero j), fun _ j => f0.2 a1 (fun h => h) j, fun _ => ⟨fun i _ j => f0.2 i (fun h => h) j, fun i k h => f0.1 i k h⟩⟩
  refine wt_T_bi (wq_md_move1F n hn a1 x2 σ s0 0 26 h1 h2 kz hk (by omega) (by omega) ⟨by intros; omega, by intros; omega, by intros; omega, by intros; omega, by intros; omega, by intros; omega, by intros; omega⟩ (fun s1 s' v r1 _ es => wt_RI_fno r1 es (Or.inr (by decide +kernel)))) (fun qa ha => ?_)
  obtain ⟨s1, ε1⟩ : ∃ o : wt_St, o = wt_sf qa.2 108 26 qa.1 := ⟨_, rfl⟩
  rw [← ε1]
  obtain ⟨k1, f1⟩ := ha s1 ε1
  have g1 : 0 ≤ (wt_gf s1 108 40).toInt ∧ (wt_gf s1 108 40).toInt ≤ 10 := wt_Rf8 k1.1
  refine wt_T_bi (wq_md_move1F n hn a1 x2 σ s1 1 40 h1 h2 k1 hk (by omega) (by omega) ⟨by intros; omega, by intros; omega, by intros; omega, by intros; omega, by intros; omega, by intros; omega, by intros; omega⟩ (fun s1 s' v r1 hv es => wt_Rm8 r1 es (hv.1 rfl).1 (hv.1 rfl).2)) (fun qb hb => ?_)
  obtain ⟨s2, ε2⟩ : ∃ o : wt_St, o = wt_sf qb.2 108 40 qb.1 := ⟨_, rfl⟩
  rw [← ε2]
  obtain ⟨k2, f2⟩ := hb s2 ε2
  have f02 : wt_fr wt_mF (wt_mA a1) σ s2 := wt_fr.tr (wt_fr.tr (wt_fr.tr wt_fr.rf f0 (fun i k h => ⟨h.1, Or.inl h.2⟩) (fun i (h : False) => h.elim)) f1 (fun i k h => ⟨h.1, h.2.elim Or.inl (fun h => Or.inr (Or.inl h))⟩) (fun i h => Or.inl h)) f2 (fun i k h => ⟨h.1, h.2.elim Or.inl (fun h => Or.inr (Or.inr h))⟩) (fun i h => Or.inl h)
  refine wt_T_it (fun s : Int32 × wt_St => 0 ≤ s.1.toInt ∧ s.1.toInt ≤ 338 ∧ wt_KM a1 x2 σ s.2 (2 + 2 * Int32.toNatClampNeg s.1) ∧ wt_fr wt_mF (wt_mA a1) σ s.2) (fun s => (338 - s.1.toInt).toNat) (fun K z hI hK => ?_) n _ ?_ ?_
  · obtain ⟨l1, l2, kz, fz⟩ := hI
    have et := wt_tnI l1
    unfold wp_md_movesAll_B35
    refine wt_T_if (fun h => ?_) (fun h => ?_)
    · have c := wt_cle h
      refine wq_md_movesAll_p n hn a1 x2 σ h1 h2 hk z.2 ?_ fz
      rw [show 678 = 2 + 2 * Int32.toNatClampNeg z.1 by omega]
      exact kz
    · have c := wt_ncle h
      have ei := wt_i1 (c := z.1) (by omega)
      have eN : Int32.toNatClampNeg (z.1 + (1 : Int32)) = Int32.toNatClampNeg z.1 + 1 := wt_tn_i1 l1 (by omega)
      refine wt_T_gd (wt_ix (by omega) (by omega)) ?_
      have g2 : 0 ≤ (wt_ga z.2 121 (Int32.toNatClampNeg z.1)).toInt ∧ (wt_ga z.2 121 (Int32.toNatClampNeg z.1)).toInt ≤ 400 := wt_Ra3 kz.1 121 (by decide) (by decide) _
      refine wt_T_bi (wq_md_move1 n hn a1 x2 σ z.2 (2 + 2 * Int32.toNatClampNeg z.1) 121 (Int32.toNatClampNeg z.1) h1 h2 kz hk (by omega) (by omega) ⟨by intros; omega, by intros; omega, by intros; omega, by intros; omega, by intros; omega, by intros; omega, by intros; omega⟩ (fun s1 s' v r1 hv es => by
        have hv2 := hv.2.1 (by omega) (by omega) (by omega)
        exact wt_Rn3 r1 es (by decide) (by decide) hv2.1 hv2.2)) (fun qc hc => ?_)
      refine wt_T_gd (wt_ix (by omega) (by omega)) ?_
      refine wt_T_gd (wt_ix (by omega) (by omega)) ?_
      obtain ⟨s3, ε3⟩ : ∃ o : wt_St, o = wt_sa qc.2 121 (Int32.toNatClampNeg z.1) qc.1 := ⟨_, rfl⟩
      rw [← ε3]
      obtain ⟨k3, -, -, -, -, f3⟩ := hc s3 ε3
      refine wt_T_bi (wq_md_move1 n hn a1 x2 σ s3 (2 + 2 * Int32.toNatClampNeg z.1 + 1) 124 (Int32.toNatClampNeg z.1) h1 h2 k3 hk (by omega) (by omega) ⟨by intros; omega, by intros; omega, by intros; omega, by intros; omega, by intros; omega, by intros; omega, by intros; omega⟩ (fun s1 s' v r1 hv es => wt_RI_no r1 es 124 125 (by decide +kernel) (by decide) (by decide))) (fun qd hd => ?_)
      refine wt_T_gd (wt_ix (by omega) (by omega)) ?_
      obtain ⟨k4, -, -, -, -, f4⟩ := hd _ rfl
      refine hK _ ⟨(show 0 ≤ (z.1 + (1 : Int32)).toInt by omega), (show (z.1 + (1 : Int32)).toInt ≤ 338 by omega), ?_, wt_fr.tr (wt_fr.tr fz f3 (fun i k h => ⟨h.1, Or.inl h.2⟩) (fun i h => by unfold wt_mA; omega)) f4 (fun i k h => ⟨h.1, Or.inl h.2⟩) (fun i h => by unfold wt_mA; omega)⟩ (show (338 - (z.1 + (1 : Int32)).toInt).toNat < (338 - z.1.toInt).toNat by omega)
      show wt_KM a1 x2 σ _ (2 + 2 * Int32.toNatClampNeg (z.1 + (1 : Int32)))
      rw [eN, show 2 + 2 * (Int32.toNatClampNeg z.1 + 1) = 2 + 2 * Int32.toNatClampNeg z.1 + 1 + 1 by omega]
      exact k4
  · refine ⟨(show 0 ≤ (0 : Int32).toInt by omega), (show (0 : Int32).toInt ≤ 338 by omega), ?_, f02⟩
    show wt_KM a1 x2 σ s2 (2 + 2 * Int32.toNatClampNeg (0 : Int32))
    rw [wt_tn0]
    exact k2
  · show (338 - (0 : Int32).toInt).toNat < n
    omega
/-- a kept row: ranges, and its pages hold what their texts need, no piece twice -/
def wt_KG (σ : wt_St) (a1 : Nat) : Prop := ∀ g, g < 4 → (wt_ga σ a1 (678 + 110 * g)).toInt ≠ -1 → (wt_ga σ a1 (678 + 110 * g)).toInt < (wt_gf σ 108 39).toInt ∧ ∀ l : Int, 0 ≤ l → l < 26 → wt_nt σ (Int32.toNatClampNeg (wt_ga σ a1 (678 + 110 * g))) l ≤ wt_ct (fun k => (wt_ga σ a1 (680 + 110 * g + k)).toInt / 13) l (Int32.toNatClampNeg (wt_ga σ a1 (679 + 110 * g)))
def wt_KD (σ : wt_St) (a1 : Nat) : Prop := ∀ g, g < 4 → ∀ k k' : Nat, k' < k → (k : Int) < (wt_ga σ a1 (679 + 110 * g)).toInt → wt_ga σ a1 (680 + 110 * g + k') ≠ wt_ga σ a1 (680 + 110 * g + k)
def wt_KK (σ : wt_St) (a1 : Nat) : Prop := (∀ j, j < 1158 → wt_kp j (wt_ga σ a1 j).toInt) ∧ wt_KG σ a1 ∧ wt_KD σ a1
def wt_KR (σ : wt_St) : Prop := ∀ i : Nat, (i : Int) < (wt_gf σ 108 41).toInt → wt_KK σ (283 + i)
/-- what texts and words are made of -/
def wt_TA (i : Nat) : Prop := i = 126 ∨ (193 ≤ i ∧ i < 254) ∨ (255 ≤ i ∧ i < 263)
theorem wt_nw_ta {σ σ' : wt_St} {w : Nat} {l : Int} (hw : w ≤ 59) (h : ∀ i, wt_TA i → ∀ j, wt_ga σ' i j = wt_ga σ i j) : wt_nw σ' w l = wt_nw σ w l := by
  unfold wt_nw
  rw [h 126 (Or.inl rfl) w]
  have e : (fun k => (wt_ga σ' (193 + w) k).toInt) = (fun k => (wt_ga σ (193 + w) k).toInt) := by
    funext k
    rw [h (193 + w) (Or.inr (Or.inl ⟨by omega, by omega⟩)) k]
  rw [e]
theorem wt_nt_ta {σ σ' : wt_St} {t : Nat} {l : Int} (r : wt_RI σ) (ht : t ≤ 7) (h : ∀ i, wt_TA i → ∀ j, wt_ga σ' i j = wt_ga σ i j) : wt_nt σ' t l = wt_nt σ t l := by
  unfold wt_nt
  rw [h 253 (Or.inr (Or.inl ⟨by omega, by omega⟩)) t]
  have e : (fun k => wt_nw σ' (Int32.toNatClampNeg (wt_ga σ' (255 + t) k)) l) = (fun k => wt_nw σ (Int32.toNatClampNeg (wt_ga σ (255 + t) k)) l) := by
    funext k
    have g := wt_Ra10 r (255 + t) (show 255 ≤ 255 + t by omega) (show 255 + t < 263 by omega) k
    rw [h (255 + t) (Or.inr (Or.inr ⟨by omega, by omega⟩)) k]
    exact wt_nw_ta (wt_tnle (b := 59) g.2) h
  rw [e]
theorem wt_KK_eq {σ σ' : wt_St} {a1 : Nat} (r : wt_RI σ) (k : wt_KK σ a1) (hf : wt_gf σ' 108 39 = wt_gf σ 108 39) (h : ∀ i, wt_TA i → ∀ j, wt_ga σ' i j = wt_ga σ i j) (ha : ∀ j, wt_ga σ' a1 j = wt_ga σ a1 j) : wt_KK σ' a1 := by
  have ef : wt_ga σ' a1 = wt_ga σ a1 := funext ha
  obtain ⟨k1, k2, k3⟩ := k
  refine ⟨fun j hj => by rw [ha]; exact k1 j hj, fun g hg hne => ?_, fun g hg k k' h1 h2 => ?_⟩
  · simp only [ha] at hne ⊢
    rw [hf]
    refine ⟨(k2 g hg hne).1, fun l h0 h1 => ?_⟩
    have hr := (k1 (678 + 110 * g) (by omega)).2.2.1 (by omega) (by omega) (by omega)
    rw [wt_nt_ta r (wt_tnle (b := 7) hr.2) h]
    exact (k2 g hg hne).2 l h0 h1
  · simp only [ha] at h2 ⊢
    exact k3 g hg k k' h1 h2
/-- pages that equal the places of a row -/
theorem wt_KG_of {σ : wt_St} {a1 : Nat} (r : wt_RI σ) (p : wt_PG σ) (e : ∀ g, g < 4 → wt_EQ a1 σ g) : wt_KG σ a1 := by
  intro g hg hne
  obtain ⟨e1, e2, e3⟩ := e g hg
  rw [← e1] at hne ⊢
  refine ⟨(p g hg hne).1, fun l h0 h1 => ?_⟩
  have h := (p g hg hne).2 l h0 h1
  unfold wt_pc at h
  rw [← e2]
  have gm : 0 ≤ (wt_ga σ 276 g).toInt ∧ (wt_ga σ 276 g).toInt ≤ 108 := wt_Ra13 r 276 (by decide) (by decide) g
  rw [wt_ct_congr (g := fun k => (wt_ga σ (278 + g) k).toInt / 13) _ (fun k hk => by
    have := wt_tnle (b := 108) gm.2
    show (wt_ga σ a1 (680 + 110 * g + k)).toInt / 13 = (wt_ga σ (278 + g) k).toInt / 13
    rw [e3 k (by omega)])]
  exact h
theorem wt_PG_of {σ : wt_St} {a1 : Nat} (r : wt_RI σ) (p : wt_KG σ a1) (e : ∀ g, g < 4 → wt_EQ a1 σ g) : wt_PG σ := by
  intro g hg hne
  obtain ⟨e1, e2, e3⟩ := e g hg
  have h := p g hg (by rw [← e1]; exact hne)
  rw [← e1] at h
  refine ⟨h.1, fun l h0 h1 => ?_⟩
  have h2 := h.2 l h0 h1
  unfold wt_pc
  rw [← e2] at h2
  have gm : 0 ≤ (wt_ga σ 276 g).toInt ∧ (wt_ga σ 276 g).toInt ≤ 108 := wt_Ra13 r 276 (by decide) (by decide) g
  rw [wt_ct_congr (g := fun k => (wt_ga σ a1 (680 + 110 * g + k)).toInt / 13) _ (fun k hk => by
    have := wt_tnle (b := 108) gm.2
    show (wt_ga σ (278 + g) k).toInt / 13 = (wt_ga σ a1 (680 + 110 * g + k)).toInt / 13
    rw [e3 k (by omega)])]
  exact h2
theorem wt_KD_of {σ : wt_St} {a1 : Nat} (r : wt_RI σ) (p : wt_PD σ) (e : ∀ g, g < 4 → wt_EQ a1 σ g) : wt_KD σ a1 := by
  intro g hg k k' h1 h2
  obtain ⟨-, e2, e3⟩ := e g hg
  have gm : 0 ≤ (wt_ga σ 276 g).toInt ∧ (wt_ga σ 276 g).toInt ≤ 108 := wt_Ra13 r 276 (by decide) (by decide) g
  rw [← e2] at h2
  rw [← e3 k (by omega), ← e3 k' (by omega)]
  exact p g hg k k' h1 h2
theorem wt_PD_of {σ : wt_St} {a1 : Nat} (r : wt_RI σ) (p : wt_KD σ a1) (e : ∀ g, g < 4 → wt_EQ a1 σ g) : wt_PD σ := by
  intro g hg k k' h1 h2
  obtain ⟨-, e2, e3⟩ := e g hg
  have gm : 0 ≤ (wt_ga σ 276 g).toInt ∧ (wt_ga σ 276 g).toInt ≤ 108 := wt_Ra13 r 276 (by decide) (by decide) g
  rw [e3 k (by omega), e3 k' (by omega)]
  rw [e2] at h2
  exact p g hg k k' h1 h2
/-- what holds between the calls -/
def wt_IV (σ : wt_St) : Prop := wt_RI σ ∧ wt_M12 σ ∧ wt_PG σ ∧ wt_PD σ ∧ wt_KR σ
theorem wt_IV_fr {σ σ' : wt_St} {F : Nat → Nat → Prop} {A : Nat → Prop} (v : wt_IV σ) (r' : wt_RI σ') (f : wt_fr F A σ σ') (h39 : ¬ F 108 39) (h41 : ¬ F 108 41) (hA : ∀ i, wt_PA i ∨ i = 111 ∨ (283 ≤ i ∧ i < 286) → ¬ A i) : wt_IV σ' := by
  obtain ⟨v1, v2, v3, v4, v5⟩ := v
  have g41 : 0 ≤ (wt_gf σ 108 41).toInt ∧ (wt_gf σ 108 41).toInt ≤ 3 := wt_Rf9 v1
  refine ⟨r', wt_M_fr v2 f (hA 111 (Or.inr (Or.inl rfl))), wt_PG_fr v1 v3 f h39 (fun i hi => hA i (Or.inl hi)), wt_PD_fr v4 f (fun i hi => hA i (Or.inl (by unfold wt_PA; omega))), fun i hi => ?_⟩
  rw [f.1 108 41 h41] at hi
  exact wt_KK_eq v1 (v5 i hi) (f.1 108 39 h39) (fun j hj => f.2 j (hA j (Or.inl (by unfold wt_TA at hj; unfold wt_PA; omega)))) (f.2 _ (hA _ (Or.inr (Or.inr ⟨by omega, by omega⟩))))
set_option maxRecDepth 100000 in
set_option maxHeartbeats 4000000 in
theorem wq_md_image (n : Nat) (hn : 4294967297 < n) (σ : wt_St) (v : wt_IV σ) : wt_T (wp_md_image n σ) (fun q => wt_IV q.2 ∧ ∀ i k, (i = 108 ∧ k = 1) ∨ (i = 1 ∧ k = 2) → wt_gf q.2 i k = wt_gf σ i k) := by
  unfold wp_md_image
  have k0 : (0 : Int32).toInt = 0 := by decide
  have k3 : (3 : Int32).toInt = 3 := by decide
  obtain ⟨s0, ε0⟩ : ∃ o : wt_St, o = wt_sf σ 108 0 (0 : Int32) := ⟨_, rfl⟩
  rw [← ε0]
  have f0 := wt_fr_sf ε0
  have v0 : wt_IV s0 := wt_IV_fr v (wt_RI_fno v.1 ε0 (Or.inr (by decide +kernel))) f0 (by omega) (by omega) (fun i _ h => h)
  have e0 : ∀ i k, (i = 108 ∧ k = 1) ∨ (i = 1 ∧ k = 2) → wt_gf s0 i k = wt_gf σ i k := fun i k h => f0.1 i k (by omega)
  refine wt_T_if (fun h => wt_T_some ⟨v0, e0⟩) (fun h => ?_)
  have c := wt_nceq h
  have g41 : 0 ≤ (wt_gf s0 108 41).toInt ∧ (wt_gf s0 108 41).toInt ≤ 3 := wt_Rf9 v0.1
  have h41 := wt_tnI g41.1
  refine wt_T_gd (wt_ix (by omega) (by omega)) ?_
  refine wt_T_bi (wq_md_movesAll n hn (283 + Int32.toNatClampNeg (wt_gf s0 108 41)) (0 : Int32) s0 v0.1 (by omega) (by omega) (fun h => absurd k0 h)) (fun q hq => ?_)
  obtain ⟨⟨rq, -, kp, -, ks⟩, -, eq⟩ := hq
  have fq : wt_fr (fun i k => i = 108 ∧ k = 42) (fun i => i = 283 + Int32.toNatClampNeg (wt_gf s0 108 41)) s0 q := ⟨(ks k0).2, (ks k0).1⟩
  obtain ⟨w1, w2, w3, w4, w5⟩ := v0
  have pgq := wt_PG_fr w1 w3 fq (by omega) (fun i hi h => by unfold wt_PA at hi; omega)
  have pdq := wt_PD_fr w4 fq (fun i hi h => by omega)
  have e41 : wt_gf q 108 41 = wt_gf s0 108 41 := fq.1 108 41 (by omega)
  have ei := wt_i1 (c := wt_gf q 108 41) (by rw [e41]; omega)
  obtain ⟨s1, ε1⟩ : ∃ o : wt_St, o = wt_sf q 108 41 ((wt_gf q 108 41) + (1 : Int32)) := ⟨_, rfl⟩
  rw [← ε1]
  have f1 := wt_fr_sf ε1
  have r1 := wt_Rm9 rq ε1 (show 0 ≤ ((wt_gf q 108 41) + (1 : Int32)).toInt by rw [ei, e41]; omega) (show ((wt_gf q 108 41) + (1 : Int32)).toInt ≤ 3 by rw [ei, e41]; omega)
  refine wt_T_some ⟨⟨r1, wt_M_fr (wt_M_fr w2 fq (by omega)) f1 (fun h => h), wt_PG_fr rq pgq f1 (by omega) (fun i _ h => h), wt_PD_fr pdq f1 (fun i _ h => h), fun i hi => ?_⟩, ?_⟩
  · have hi' : (i : Int) < (wt_gf s1 108 41).toInt := hi
    rw [wt_v_sf ε1, ei, e41] at hi'
    by_cases hc : i = Int32.toNatClampNeg (wt_gf s0 108 41)
    · subst hc
      exact wt_KK_eq rq ⟨kp, wt_KG_of rq pgq eq, wt_KD_of rq pdq eq⟩ (f1.1 108 39 (by omega)) (fun j _ => f1.2 j (fun h => h)) (f1.2 _ (fun h => h))
    · have kq := wt_KK_eq (σ' := q) w1 (w5 i (by omega)) (fq.1 108 39 (by omega)) (fun j hj => fq.2 j (fun h => by unfold wt_TA at hj; omega)) (fq.2 _ (fun h => by omega))
      exact wt_KK_eq rq kq (f1.1 108 39 (by omega)) (fun j _ => f1.2 j (fun h => h)) (f1.2 _ (fun h => h))
  · exact fun i k h => (f1.1 i k (by omega)).trans ((fq.1 i k (by omega)).trans (e0 i k h))
set_option maxRecDepth 100000 in
set_option maxHeartbeats 4000000 in
theorem wq_md_restore (n : Nat) (hn : 4294967297 < n) (σ : wt_St) (v : wt_IV σ) : wt_T (wp_md_restore n σ) (fun q => wt_IV q.2 ∧ ∀ i k, (i = 108 ∧ k = 1) ∨ (i = 1 ∧ k = 2) → wt_gf q.2 i k = wt_gf σ i k) := by
  unfold wp_md_restore
  have k0 : (0 : Int32).toInt = 0 := by decide
  have k1 : (1 : Int32).toInt = 1 := by decide
  obtain ⟨s0, ε0⟩ : ∃ o : wt_St, o = wt_sf σ 108 0 (0 : Int32) := ⟨_, rfl⟩
  rw [← ε0]
  have f0 := wt_fr_sf ε0
  have v0 : wt_IV s0 := wt_IV_fr v (wt_RI_fno v.1 ε0 (Or.inr (by decide +kernel))) f0 (by omega) (by omega) (fun i _ h => h)
  have e0 : ∀ i k, (i = 108 ∧ k = 1) ∨ (i = 1 ∧ k = 2) → wt_gf s0 i k = wt_gf σ i k := fun i k h => f0.1 i k (by omega)
  refine wt_T_if (fun h => wt_T_some ⟨v0, e0⟩) (fun h => ?_)
  have c := wt_nceq h
  have g41 : 0 ≤ (wt_gf s0 108 41).toInt ∧ (wt_gf s0 108 41).toInt ≤ 3 := wt_Rf9 v0.1
  have es := wt_subE (x := wt_gf s0 108 41) (y := (1 : Int32)) (by omega) (by omega)
  obtain ⟨s1, ε1⟩ : ∃ o : wt_St, o = wt_sf s0 108 41 ((wt_gf s0 108 41) - (1 : Int32)) := ⟨_, rfl⟩
  rw [← ε1]
  have f1 := wt_fr_sf ε1
  have r1 := wt_Rm9 v0.1 ε1 (show 0 ≤ ((wt_gf s0 108 41) - (1 : Int32)).toInt by omega) (show ((wt_gf s0 108 41) - (1 : Int32)).toInt ≤ 3 by omega)
  have v1 : (wt_gf s1 108 41).toInt = (wt_gf s0 108 41).toInt - 1 := by rw [wt_v_sf ε1, es, k1]
  have h41 := wt_tnI (x := wt_gf s1 108 41) (by omega)
  obtain ⟨w1, w2, w3, w4, w5⟩ := v0
  have kk : ∀ i : Nat, (i : Int) ≤ (wt_gf s1 108 41).toInt → wt_KK s1 (283 + i) := fun i hi => wt_KK_eq w1 (w5 i (by omega)) (f1.1 108 39 (by omega)) (fun j _ => f1.2 j (fun h => h)) (f1.2 _ (fun h => h))
  have kr := kk (Int32.toNatClampNeg (wt_gf s1 108 41)) (by omega)
  refine wt_T_gd (wt_ix (by omega) (by omega)) ?_
  refine wt_T_bi (wq_md_movesAll n hn (283 + Int32.toNatClampNeg (wt_gf s1 108 41)) (1 : Int32) s1 r1 (by omega) (by omega) (fun _ => kr.1)) (fun q hq => ?_)
  obtain ⟨⟨rq, -, kp, krow, -⟩, fq, eq⟩ := hq
  have n39 : ¬ wt_mF 108 39 := by unfold wt_mF; omega
  have n41 : ¬ wt_mF 108 41 := by unfold wt_mF; omega
  have ta : ∀ i, wt_TA i → ∀ j, wt_ga q i j = wt_ga s1 i j := fun i hi => fq.2 i (fun h => by unfold wt_TA at hi; unfold wt_mA at h; omega)
  have kq := wt_KK_eq (σ' := q) r1 kr (fq.1 108 39 n39) ta (krow (by omega))
  refine wt_T_some ⟨⟨rq, wt_M_fr (wt_M_fr w2 f1 (fun h => h)) fq (by unfold wt_mA; omega), wt_PG_of rq kq.2.1 eq, wt_PD_of rq kq.2.2 eq, fun i hi => ?_⟩, ?_⟩
  · rw [fq.1 108 41 n41] at hi
    exact wt_KK_eq r1 (kk i (by omega)) (fq.1 108 39 n39) ta (fq.2 _ (by unfold wt_mA; omega))
  · exact fun i k h => (fq.1 i k (by unfold wt_mF; omega)).trans ((f1.1 i k (by omega)).trans (e0 i k h))
