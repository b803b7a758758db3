/-! feed: the same bytes on both tapes -/
theorem wt_255 : ∀ i, i < 32 → (255#32).getLsbD i = decide (i < 8) := by decide
theorem wt_bvs (x y : BitVec 32) {s : Nat} (hy : y.toNat = s) (hs : s ≤ 24) : (x >>> s) &&& 255#32 = (x.sshiftRight' y) &&& 255#32 := by
  apply BitVec.eq_of_getLsbD_eq
  intro i hi
  rw [BitVec.getLsbD_and, BitVec.getLsbD_and, BitVec.getLsbD_ushiftRight, BitVec.getLsbD_sshiftRight', wt_255 i hi, hy]
  by_cases h8 : i < 8
  · rw [if_pos (by omega), decide_eq_false (by omega : ¬ 32 ≤ i)]
    rfl
  · rw [decide_eq_false h8, Bool.and_false, Bool.and_false]
def wt_by (x : Int32) (b : Nat) : Int32 := (wt_ush x (nI (24 - 8 * b))) &&& (255 : Int32)
theorem wt_byM (x : Int32) {b : Nat} (hb : b < 4) : (x >>> (nI (24 - 8 * b))) &&& (255 : Int32) = wt_by x b := by
  unfold wt_by
  apply Int32.toBitVec_inj.mp
  have : b = 0 ∨ b = 1 ∨ b = 2 ∨ b = 3 := by omega
  rcases this with h | h | h | h
  · subst h
    exact (wt_bvs x.toBitVec 24#32 (s := 24) rfl (by omega)).symm
  · subst h
    exact (wt_bvs x.toBitVec 16#32 (s := 16) rfl (by omega)).symm
  · subst h
    exact (wt_bvs x.toBitVec 8#32 (s := 8) rfl (by omega)).symm
  · subst h
    exact (wt_bvs x.toBitVec 0#32 (s := 0) rfl (by omega)).symm
set_option maxHeartbeats 4000000 in
theorem wh_push (n : Nat) {x : Int32} {σ : wt_St} {k : Nat} (hk : (wt_gf σ 1 2).toInt = (k : Int)) (hk2 : k + 4 ≤ 500) : wt_H (wp_tp_push n x σ) (fun q => wt_fr (fun i k => i = 1 ∧ k = 2) (fun i => i = 2) σ q ∧ (wt_gf q 1 2).toInt = ((k + 4 : Nat) : Int) ∧ (∀ b, b < 4 → wt_ga q 2 (k + b) = wt_by x b) ∧ ∀ j, j < k ∨ k + 4 ≤ j → wt_ga q 2 j = wt_ga σ 2 j) := by
  have k0 : (0 : Int32).toInt = 0 := by decide
  have k24 : (24 : Int32).toInt = 24 := by decide
  unfold wp_tp_push
  refine wt_H_it (fun s : Int32 × wt_St => ∃ b : Nat, b ≤ 4 ∧ s.1.toInt = 24 - 8 * (b : Int) ∧ (wt_gf s.2 1 2).toInt = ((k + b : Nat) : Int) ∧ wt_fr (fun i k => i = 1 ∧ k = 2) (fun i => i = 2) σ s.2 ∧ (∀ b', b' < b → wt_ga s.2 2 (k + b') = wt_by x b') ∧ ∀ j, j < k ∨ k + b ≤ j → wt_ga s.2 2 j = wt_ga σ 2 j) (fun K s I hK => ?_) n _ ⟨0, by omega, by show ((24 : Int32)).toInt = _; omega, by rw [Nat.add_zero]; exact hk, wt_fr.rf, fun b' h => absurd h (by omega), fun j _ => rfl⟩
  obtain ⟨b, b1, b2, b3, f, b4, b5⟩ := I
  unfold wp_tp_push_B3
  refine wt_H_if (fun c => ?_) (fun c => ?_)
  · have c' := wt_clt c
    have e : b = 4 := by omega
    subst e
    exact wt_H_some ⟨f, b3, b4, b5⟩
  · have c' := wt_ncl c
    have es : s.1 = nI (24 - 8 * b) := wt_eqI (by rw [nI_toInt (by omega)]; omega)
    have ed := wt_d8 (c := s.1) (by omega)
    refine wt_H_bh (wh_put n (k := k + b) b3 (by rw [wt_ln2]; omega)) (fun q hq => ?_)
    have fq := wt_fr_sa hq
    have eq2 : wt_gf q 1 2 = wt_gf s.2 1 2 := fq.1 1 2 (fun h => h)
    rw [eq2]
    have ei := wt_i1 (c := wt_gf s.2 1 2) (by omega)
    obtain ⟨s1, ε1⟩ : ∃ o : wt_St, o = wt_sf q 1 2 ((wt_gf s.2 1 2) + (1 : Int32)) := ⟨_, rfl⟩
    rw [← ε1]
    have f1 := wt_fr_sf ε1
    refine hK _ ⟨b + 1, by omega, (show (s.1 + (-8 : Int32)).toInt = _ by rw [ed]; omega), ?_, wt_fr.tr (wt_fr.tr f fq (fun i k h => h.elim) (fun i h => h)) f1 (fun i k h => h) (fun i h => h.elim), fun b' hb' => ?_, fun j hj => ?_⟩
    · show (wt_gf s1 1 2).toInt = _
      rw [wt_v_sf ε1, ei, b3]
      omega
    · show wt_ga s1 2 (k + b') = wt_by x b'
      rw [f1.2 2 (fun h => h)]
      by_cases hc : b' = b
      · rw [hc, wt_v_sa hq, es]
        rfl
      · rw [wt_w_sa hq _ (by omega)]
        exact b4 b' (by omega)
    · show wt_ga s1 2 j = wt_ga σ 2 j
      rw [f1.2 2 (fun h => h), wt_w_sa hq _ (by omega)]
      exact b5 j (by omega)
def wt_fx (x1 x2 x3 x4 x5 : Int32) (i : Nat) : Int32 := if i < 4 then x1 else if i < 8 then x2 else if i < 12 then x3 else if i < 16 then x4 else x5
theorem wt_sh20 : ∀ i, i < 20 → (((24 : Int32) - ((8 : Int32) * (wt_rem (nI i) (4 : Int32)))) &&& 31) = nI (24 - 8 * (i % 4)) := by decide +kernel
set_option maxHeartbeats 4000000 in
theorem wh_feedA (n : Nat) {x1 x2 x3 x4 x5 : Int32} {σ : wt_St} {k : Nat} (hk : (wt_gf σ 1 2).toInt = (k : Int)) : wt_H (wp_ap_feed n x1 x2 x3 x4 x5 σ) (fun q => (480 < k ∧ q = ((-1 : Int32), σ)) ∨ (k ≤ 480 ∧ q.1.toInt = ((k + 20 : Nat) : Int) ∧ (wt_gf q.2 1 2).toInt = ((k + 20 : Nat) : Int) ∧ (∀ i, i < 20 → wt_ga q.2 2 (k + i) = wt_by (wt_fx x1 x2 x3 x4 x5 i) (i % 4)) ∧ ∀ j, j < k ∨ k + 20 ≤ j → wt_ga q.2 2 j = wt_ga σ 2 j)) := by
  have k480 : (480 : Int32).toInt = 480 := by decide
  unfold wp_ap_feed
  refine wt_H_if (fun c => ?_) (fun c => ?_)
  · have c' := wt_cle c
    refine wt_H_bh (wh_push n hk (by omega)) (fun q1 h1 => ?_)
    obtain ⟨f1, s1, v1, u1⟩ := h1
    refine wt_H_bh (wh_push n s1 (by omega)) (fun q2 h2 => ?_)
    obtain ⟨f2, s2, v2, u2⟩ := h2
    refine wt_H_bh (wh_push n s2 (by omega)) (fun q3 h3 => ?_)
    obtain ⟨f3, s3, v3, u3⟩ := h3
    refine wt_H_bh (wh_push n s3 (by omega)) (fun q4 h4 => ?_)
    obtain ⟨f4, s4, v4, u4⟩ := h4
    refine wt_H_bh (wh_push n s4 (by omega)) (fun q5 h5 => ?_)
    obtain ⟨f5, s5, v5, u5⟩ := h5
    refine wt_H_some (Or.inr ⟨by omega, by omega, by omega, fun i hi => ?_, fun j hj => ?_⟩)
    · show wt_ga q5 2 (k + i) = _
      unfold wt_fx
      by_cases d1 : i < 4
      · rw [if_pos d1, u5 _ (by omega), u4 _ (by omega), u3 _ (by omega), u2 _ (by omega), show i % 4 = i by omega]
        exact v1 i d1
      · rw [if_neg d1]
        by_cases d2 : i < 8
        · rw [if_pos d2, u5 _ (by omega), u4 _ (by omega), u3 _ (by omega), show i % 4 = i - 4 by omega, ← v2 (i - 4) (by omega), show k + 4 + (i - 4) = k + i by omega]
        · rw [if_neg d2]
          by_cases d3 : i < 12
          · rw [if_pos d3, u5 _ (by omega), u4 _ (by omega), show i % 4 = i - 8 by omega, ← v3 (i - 8) (by omega), show k + 4 + 4 + (i - 8) = k + i by omega]
          · rw [if_neg d3]
            by_cases d4 : i < 16
            · rw [if_pos d4, u5 _ (by omega), show i % 4 = i - 12 by omega, ← v4 (i - 12) (by omega), show k + 4 + 4 + 4 + (i - 12) = k + i by omega]
            · rw [if_neg d4, show i % 4 = i - 16 by omega, ← v5 (i - 16) (by omega), show k + 4 + 4 + 4 + 4 + (i - 16) = k + i by omega]
    · show wt_ga q5 2 j = _
      rw [u5 _ (by omega), u4 _ (by omega), u3 _ (by omega), u2 _ (by omega), u1 _ (by omega)]
  · have c' := wt_ncle c
    exact wt_H_some (Or.inl ⟨by omega, rfl⟩)
set_option maxHeartbeats 4000000 in
theorem wh_feedM (n : Nat) {x1 x2 x3 x4 x5 : Int32} {σ : wt_St} {k : Nat} (hk : (wt_gf σ 108 1).toInt = (k : Int)) (hk5 : k ≤ 500) : wt_H (wp_md_feed n x1 x2 x3 x4 x5 σ) (fun q => (480 < k ∧ q.1 = (-1 : Int32) ∧ wt_gf q.2 108 1 = wt_gf σ 108 1 ∧ ∀ j, wt_ga q.2 109 j = wt_ga σ 109 j) ∨ (k ≤ 480 ∧ q.1.toInt = ((k + 20 : Nat) : Int) ∧ (wt_gf q.2 108 1).toInt = ((k + 20 : Nat) : Int) ∧ (∀ i, i < 20 → wt_ga q.2 109 (k + i) = wt_by (wt_fx x1 x2 x3 x4 x5 i) (i % 4)) ∧ ∀ j, j < k ∨ k + 20 ≤ j → wt_ga q.2 109 j = wt_ga σ 109 j)) := by
  have k0 : (0 : Int32).toInt = 0 := by decide
  have k20 : (20 : Int32).toInt = 20 := by decide
  have k4 : (4 : Int32).toInt = 4 := by decide
  have k8 : (8 : Int32).toInt = 8 := by decide
  have k12 : (12 : Int32).toInt = 12 := by decide
  have k16 : (16 : Int32).toInt = 16 := by decide
  have k500 : (500 : Int32).toInt = 500 := by decide
  unfold wp_md_feed
  obtain ⟨z0, ε0⟩ : ∃ o : wt_St, o = wt_sf σ 108 0 (0 : Int32) := ⟨_, rfl⟩
  rw [← ε0]
  have g0 := wt_fr_sf ε0
  have e1 : wt_gf z0 108 1 = wt_gf σ 108 1 := g0.1 108 1 (by (try dsimp only); omega)
  rw [e1]
  have ea := wt_addE (x := wt_gf σ 108 1) (y := (20 : Int32)) (by omega) (by omega)
  refine wt_H_if (fun c => ?_) (fun c => ?_)
  · have c' := wt_cle c
    refine wt_H_it (fun s : Int32 × wt_St => ∃ i : Nat, i ≤ 20 ∧ s.1.toInt = (i : Int) ∧ (wt_gf s.2 108 1).toInt = ((k + i : Nat) : Int) ∧ (∀ i', i' < i → wt_ga s.2 109 (k + i') = wt_by (wt_fx x1 x2 x3 x4 x5 i') (i' % 4)) ∧ ∀ j, j < k ∨ k + i ≤ j → wt_ga s.2 109 j = wt_ga σ 109 j) (fun K s I hK => ?_) n _ ⟨0, by omega, k0, by rw [Nat.add_zero]; show (wt_gf z0 108 1).toInt = _; rw [e1]; exact hk, fun i' h => absurd h (by omega), fun j _ => g0.2 109 (fun h => h) j⟩
    obtain ⟨i, i1, i2, i3, i4, i5⟩ := I
    have E : ∀ y : Int32, i < 20 → y = wt_fx x1 x2 x3 x4 x5 i → wt_H (wp_md_feed_B76 n x1 x2 x3 x4 x5 s.1 K y s.2) (fun q => (480 < k ∧ q.1 = (-1 : Int32) ∧ wt_gf q.2 108 1 = wt_gf σ 108 1 ∧ ∀ j, wt_ga q.2 109 j = wt_ga σ 109 j) ∨ (k ≤ 480 ∧ q.1.toInt = ((k + 20 : Nat) : Int) ∧ (wt_gf q.2 108 1).toInt = ((k + 20 : Nat) : Int) ∧ (∀ i, i < 20 → wt_ga q.2 109 (k + i) = wt_by (wt_fx x1 x2 x3 x4 x5 i) (i % 4)) ∧ ∀ j, j < k ∨ k + 20 ≤ j → wt_ga q.2 109 j = wt_ga σ 109 j)) := by
      intro y hi hy
      have es : s.1 = nI i := wt_eqI (by rw [nI_toInt (by omega)]; exact i2)
      have ei := wt_i1 (c := s.1) (by omega)
      unfold wp_md_feed_B76
      refine wt_H_gd (fun _ => ?_)
      rw [wt_tnN (m := k + i) i3]
      have hsh : (y >>> (((24 : Int32) - ((8 : Int32) * (wt_rem s.1 (4 : Int32)))) &&& 31)) &&& (255 : Int32) = wt_by (wt_fx x1 x2 x3 x4 x5 i) (i % 4) := by
        rw [es, wt_sh20 i hi, hy]
        exact wt_byM _ (by omega)
      rw [hsh]
      obtain ⟨s1, ε1⟩ : ∃ o : wt_St, o = wt_sa s.2 109 (k + i) (wt_by (wt_fx x1 x2 x3 x4 x5 i) (i % 4)) := ⟨_, rfl⟩
      rw [← ε1]
      have f1 := wt_fr_sa ε1
      have e2 : wt_gf s1 108 1 = wt_gf s.2 108 1 := f1.1 108 1 (fun h => h)
      rw [e2]
      have ej := wt_i1 (c := wt_gf s.2 108 1) (by omega)
      obtain ⟨s2, ε2⟩ : ∃ o : wt_St, o = wt_sf s1 108 1 ((wt_gf s.2 108 1) + (1 : Int32)) := ⟨_, rfl⟩
      rw [← ε2]
      have f2 := wt_fr_sf ε2
      refine hK _ ⟨i + 1, by omega, (show (s.1 + (1 : Int32)).toInt = _ by omega), ?_, fun i' hi' => ?_, fun j hj => ?_⟩
      · show (wt_gf s2 108 1).toInt = _
        rw [wt_v_sf ε2, ej, i3]
        omega
      · show wt_ga s2 109 (k + i') = _
        rw [f2.2 109 (fun h => h)]
        by_cases hc : i' = i
        · rw [hc, wt_v_sa ε1]
        · rw [wt_w_sa ε1 _ (by omega)]
          exact i4 i' (by omega)
      · show wt_ga s2 109 j = _
        rw [f2.2 109 (fun h => h), wt_w_sa ε1 _ (by omega)]
        exact i5 j (by omega)
    unfold wp_md_feed_B23
    refine wt_H_if (fun d => ?_) (fun d => ?_)
    · have d' := wt_cle d
      have e : i = 20 := by omega
      subst e
      exact wt_H_some (Or.inr ⟨by omega, i3, i3, i4, i5⟩)
    · have d' := wt_ncle d
      refine wt_H_if (fun a1 => ?_) (fun a1 => ?_)
      · have a1' := wt_cle a1
        refine wt_H_if (fun a2 => ?_) (fun a2 => ?_)
        · have a2' := wt_cle a2
          refine wt_H_if (fun a3 => ?_) (fun a3 => ?_)
          · have a3' := wt_cle a3
            refine wt_H_if (fun a4 => ?_) (fun a4 => ?_)
            · have a4' := wt_cle a4
              exact E _ (by omega) (by unfold wt_fx; rw [if_neg (by omega), if_neg (by omega), if_neg (by omega), if_neg (by omega)])
            · have a4' := wt_ncle a4
              exact E _ (by omega) (by unfold wt_fx; rw [if_neg (by omega), if_neg (by omega), if_neg (by omega), if_pos (by omega)])
          · have a3' := wt_ncle a3
            exact E _ (by omega) (by unfold wt_fx; rw [if_neg (by omega), if_neg (by omega), if_pos (by omega)])
        · have a2' := wt_ncle a2
          exact E _ (by omega) (by unfold wt_fx; rw [if_neg (by omega), if_pos (by omega)])
      · have a1' := wt_ncle a1
        exact E _ (by omega) (by unfold wt_fx; rw [if_pos (by omega)])
  · have c' := wt_ncle c
    exact wt_H_some (Or.inl ⟨by omega, rfl, e1, fun j => g0.2 109 (fun h => h) j⟩)
/-- feed answers alike, and leaves the same bytes -/
theorem wr_feed (n : Nat) {x1 x2 x3 x4 x5 : Int32} {s z : wt_St} (tb : wt_TB s z) (hz : 0 ≤ (wt_gf z 108 1).toInt ∧ (wt_gf z 108 1).toInt ≤ 500) : wt_HH (wp_ap_feed n x1 x2 x3 x4 x5 s) (wp_md_feed n x1 x2 x3 x4 x5 z) (fun q y => q.1 = y.1 ∧ wt_TB q.2 y.2) := by
  have hk := wt_tnI hz.1
  have e := wt_ceq tb.2
  refine wt_HH_of (wh_feedA n (k := Int32.toNatClampNeg (wt_gf z 108 1)) (by omega)) (wh_feedM n (k := Int32.toNatClampNeg (wt_gf z 108 1)) (by omega) (by omega)) (fun q y hq hy => ?_)
  rcases hq with ⟨a, a2⟩ | ⟨a, a2, a3, a4, a5⟩
  · rcases hy with ⟨b, b2, b3, b4⟩ | ⟨b, -⟩
    · subst a2
      exact ⟨b2.symm, fun j hj => (tb.1 j hj).trans (b4 j).symm, tb.2.trans b3.symm⟩
    · omega
  · rcases hy with ⟨b, -⟩ | ⟨b, b2, b3, b4, b5⟩
    · omega
    · refine ⟨wt_eqI (by omega), fun j hj => ?_, wt_eqI (by omega)⟩
      by_cases c : j < Int32.toNatClampNeg (wt_gf z 108 1) ∨ Int32.toNatClampNeg (wt_gf z 108 1) + 20 ≤ j
      · rw [a5 j c, b5 j c]
        exact tb.1 j hj
      · have h1 := a4 (j - Int32.toNatClampNeg (wt_gf z 108 1)) (by omega)
        have h2 := b4 (j - Int32.toNatClampNeg (wt_gf z 108 1)) (by omega)
        rw [show Int32.toNatClampNeg (wt_gf z 108 1) + (j - Int32.toNatClampNeg (wt_gf z 108 1)) = j by omega] at h1 h2
        rw [h1, h2]
