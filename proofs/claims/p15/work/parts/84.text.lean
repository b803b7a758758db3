/-! a text is read -/
def wt_xS (σ s : wt_St) : Prop := wt_RI s ∧ wt_fr (fun i k => i = 108 ∧ k ≠ 39) (fun i => i = 274) σ s
theorem wt_xS_fr {σ s s' : wt_St} {F : Nat → Nat → Prop} {A : Nat → Prop} (h : wt_xS σ s) (r : wt_RI s') (f : wt_fr F A s s') (hF : ∀ i k, F i k → i = 108 ∧ k ≠ 39) (hA : ∀ i, A i → i = 274) : wt_xS σ s' := ⟨r, wt_fr.tr h.2 f hF hA⟩
def wt_xE (σ s : wt_St) : Prop := (wt_gf σ 108 39).toInt ≤ (wt_gf s 108 39).toInt ∧ ∀ t : Nat, (t : Int) < (wt_gf σ 108 39).toInt → wt_ga s 253 t = wt_ga σ 253 t ∧ ∀ j, wt_ga s (255 + t) j = wt_ga σ (255 + t) j
theorem wt_xS_E {σ s : wt_St} (h : wt_xS σ s) (g : (wt_gf σ 108 39).toInt ≤ 8) : wt_xE σ s := ⟨by rw [h.2.1 108 39 (fun z => z.2 rfl)]; exact Int.le_refl _, fun t ht => ⟨h.2.2 253 (by (try dsimp only); omega) t, fun j => h.2.2 (255 + t) (by (try dsimp only); omega) j⟩⟩
set_option maxRecDepth 100000 in
set_option maxHeartbeats 4000000 in
theorem wq_md_textH (n : Nat) (hn : 4294967297 < n) (x1 : Int32) (σ : wt_St) (r0 : wt_RI σ) : wt_H (wp_md_text n x1 σ) (fun q => wt_xE σ q.2) := by
  have k0 : (0 : Int32).toInt = 0 := by decide
  have k1 : (1 : Int32).toInt = 1 := by decide
  have k2 : (2 : Int32).toInt = 2 := by decide
  have k3 : (3 : Int32).toInt = 3 := by decide
  have g39 : 0 ≤ (wt_gf σ 108 39).toInt ∧ (wt_gf σ 108 39).toInt ≤ 8 := wt_Rf7 r0
  have n39 := wt_tnI g39.1
  have B195 : ∀ (x2 : Int32) (z : wt_St), wt_xS σ z → wt_H (wp_md_text_B195 n x2 z) (fun q => wt_xE σ q.2) := by
    intro x2 z Sz
    unfold wp_md_text_B195
    obtain ⟨s1, ε1⟩ : ∃ o : wt_St, o = wt_sf z 108 3 (wt_gf z 108 6) := ⟨_, rfl⟩
    rw [← ε1]
    have S1 : wt_xS σ s1 := wt_xS_fr Sz (wt_RI_fno Sz.1 ε1 (Or.inr (by decide +kernel))) (wt_fr_sf ε1) (fun i k h => by (try dsimp only at h); omega) (fun i h => h.elim)
    have e1 : wt_gf s1 108 39 = wt_gf σ 108 39 := S1.2.1 108 39 (fun z => z.2 rfl)
    refine wt_H_if (fun h => ?_) (fun h => wt_H_some (wt_xS_E S1 g39.2))
    rw [e1]
    refine wt_H_gd (fun g => ?_)
    have gi := wt_ixn g
    obtain ⟨s2, ε2⟩ : ∃ o : wt_St, o = wt_sa s1 253 (Int32.toNatClampNeg (wt_gf σ 108 39)) x2 := ⟨_, rfl⟩
    rw [← ε2]
    have f2 := wt_fr_sa ε2
    refine wt_H_it (fun s : Int32 × wt_St => wt_gf s.2 108 39 = wt_gf σ 108 39 ∧ ∀ t : Nat, (t : Int) < (wt_gf σ 108 39).toInt → wt_ga s.2 253 t = wt_ga σ 253 t ∧ ∀ j, wt_ga s.2 (255 + t) j = wt_ga σ (255 + t) j) (fun K s I hK => ?_) n _ ⟨(f2.1 108 39 (fun h => h)).trans e1, fun t ht => ⟨?_, fun j => ?_⟩⟩
    · obtain ⟨i1, i2⟩ := I
      unfold wp_md_text_B230
      rw [i1]
      refine wt_H_if (fun h => ?_) (fun h => ?_)
      · obtain ⟨s3, ε3⟩ : ∃ o : wt_St, o = wt_sf s.2 108 39 ((wt_gf σ 108 39) + (1 : Int32)) := ⟨_, rfl⟩
        rw [← ε3]
        have f3 := wt_fr_sf ε3
        have ei := wt_i1 (c := wt_gf σ 108 39) (by omega)
        refine wt_H_some ⟨?_, fun t ht => ⟨?_, fun j => ?_⟩⟩
        · show (wt_gf σ 108 39).toInt ≤ (wt_gf s3 108 39).toInt
          rw [wt_v_sf ε3, ei]
          omega
        · show wt_ga s3 253 t = wt_ga σ 253 t
          rw [f3.2 253 (fun h => h)]
          exact (i2 t ht).1
        · show wt_ga s3 (255 + t) j = wt_ga σ (255 + t) j
          rw [f3.2 (255 + t) (fun h => h)]
          exact (i2 t ht).2 j
      · refine wt_H_gd (fun _ => ?_)
        refine wt_H_gd (fun _ => ?_)
        refine wt_H_gd (fun _ => ?_)
        obtain ⟨s3, ε3⟩ : ∃ o : wt_St, o = wt_sa s.2 (255 + Int32.toNatClampNeg (wt_gf σ 108 39)) (Int32.toNatClampNeg s.1) (wt_ga s.2 274 (Int32.toNatClampNeg s.1)) := ⟨_, rfl⟩
        rw [← ε3]
        have f3 := wt_fr_sa ε3
        refine hK _ ⟨(f3.1 108 39 (fun h => h)).trans i1, fun t ht => ⟨?_, fun j => ?_⟩⟩
        · show wt_ga s3 253 t = wt_ga σ 253 t
          rw [f3.2 253 (by (try dsimp only); omega)]
          exact (i2 t ht).1
        · show wt_ga s3 (255 + t) j = wt_ga σ (255 + t) j
          rw [f3.2 (255 + t) (by (try dsimp only); omega)]
          exact (i2 t ht).2 j
    · show wt_ga s2 253 t = wt_ga σ 253 t
      rw [wt_w_sa ε2 t (by omega)]
      exact S1.2.2 253 (by (try dsimp only); omega) t
    · show wt_ga s2 (255 + t) j = wt_ga σ (255 + t) j
      rw [f2.2 (255 + t) (by (try dsimp only); omega)]
      exact S1.2.2 (255 + t) (by (try dsimp only); omega) j
  have B157 : ∀ (K : Int32 × wt_St → Option (Int32 × wt_St)) (x2 x3 x4 : Int32) (z : wt_St), wt_xS σ z → ((wt_gf z 108 5).toInt = 0 → 0 ≤ x4.toInt ∧ x4.toInt ≤ 59 ∧ 0 ≤ x3.toInt ∧ (wt_gf z 108 4).toInt + x3.toInt ≤ 500) → (∀ s', wt_xS σ s'.2 → wt_H (K s') (fun q => wt_xE σ q.2)) → wt_H (wp_md_text_B157 n x2 x3 x4 K z) (fun q => wt_xE σ q.2) := by
    intro K x2 x3 x4 z Sz hz hK
    unfold wp_md_text_B157
    refine wt_H_if (fun h => ?_) (fun h => B195 x2 z Sz)
    have c := wt_ceq h
    have hz2 := hz (by omega)
    refine wt_H_gd (fun g => ?_)
    obtain ⟨s1, ε1⟩ : ∃ o : wt_St, o = wt_sa z 274 (Int32.toNatClampNeg x2) x4 := ⟨_, rfl⟩
    rw [← ε1]
    have f1 := wt_fr_sa ε1
    have S1 : wt_xS σ s1 := wt_xS_fr Sz (wt_Rn11 Sz.1 ε1 (by decide) (by decide) (show 0 ≤ x4.toInt by omega) (show x4.toInt ≤ 59 by omega)) f1 (fun i k h => h.elim) (fun i h => h)
    have e4 : wt_gf s1 108 4 = wt_gf z 108 4 := f1.1 108 4 (fun h => h)
    have g4 : 0 ≤ (wt_gf z 108 4).toInt ∧ (wt_gf z 108 4).toInt ≤ 500 := wt_Rf2 Sz.1
    rw [e4]
    have ea := wt_addE (x := wt_gf z 108 4) (y := x3) (by omega) (by omega)
    obtain ⟨s2, ε2⟩ : ∃ o : wt_St, o = wt_sf s1 108 4 ((wt_gf z 108 4) + x3) := ⟨_, rfl⟩
    rw [← ε2]
    have S2 : wt_xS σ s2 := wt_xS_fr S1 (wt_Rm2 S1.1 ε2 (show 0 ≤ ((wt_gf z 108 4) + x3).toInt by omega) (show ((wt_gf z 108 4) + x3).toInt ≤ 500 by omega)) (wt_fr_sf ε2) (fun i k h => by (try dsimp only at h); omega) (fun i h => h.elim)
    refine wt_H_bi (wq_md_blanks n hn s2 S2.1) (fun q8 h8 => ?_)
    obtain ⟨f8, r8, -⟩ := h8
    exact hK _ (wt_xS_fr S2 r8 f8 (fun i k h => by (try dsimp only at h); omega) (fun i h => h.elim))
  have B84 : ∀ (K : Int32 × wt_St → Option (Int32 × wt_St)) (x2 : Int32) (z : wt_St), wt_xS σ z → (∀ s', wt_xS σ s'.2 → wt_H (K s') (fun q => wt_xE σ q.2)) → wt_H (wp_md_text_B84 n x2 K z) (fun q => wt_xE σ q.2) := by
    intro K x2 z Sz hK
    unfold wp_md_text_B84
    refine wt_H_bi (wq_md_lettersHere n hn z Sz.1) (fun a ha => ?_)
    obtain ⟨fa, ra, ⟨p1, p2⟩, p3, -⟩ := ha
    have Sa : wt_xS σ a.2 := wt_xS_fr Sz ra fa (fun i k h => by (try dsimp only at h); omega) (fun i h => h.elim)
    have g28 : 0 ≤ (wt_gf a.2 108 28).toInt ∧ (wt_gf a.2 108 28).toInt ≤ 60 := wt_Rf6 ra
    have g2 : 0 ≤ (wt_gf a.2 108 2).toInt ∧ (wt_gf a.2 108 2).toInt ≤ 500 := wt_Rf1 ra
    have g4 : 0 ≤ (wt_gf a.2 108 4).toInt ∧ (wt_gf a.2 108 4).toInt ≤ 500 := wt_Rf2 ra
    refine wt_H_bi (wq_md_wordOf_192_126 n hn a.1 (wt_gf a.2 108 28) a.2 ra (by omega)) (fun b hb => ?_)
    obtain ⟨eb, pb⟩ := hb
    rw [eb]
    have W : ∀ (y y2 x5 : Int32), 0 < y.toInt ∧ y.toInt ≤ 3 → wt_H ((wp_md_wrong n y y2 a.2).bind fun q25 => wp_md_text_B157 n x2 a.1 x5 K q25) (fun q => wt_xE σ q.2) := by
      intro y y2 x5 hy
      refine wt_H_bi (wq_md_wrong n hn y y2 a.2 ra hy.1 hy.2) (fun w hw => ?_)
      obtain ⟨fw, rw', pw⟩ := hw
      exact B157 K x2 a.1 x5 w (wt_xS_fr Sa rw' fw (fun i k h => by (try dsimp only at h); omega) (fun i h => h.elim)) (fun h => absurd h pw) hK
    refine wt_H_if (fun h1 => W _ _ _ (by omega)) (fun h1 => ?_)
    refine wt_H_if (fun h2 => W _ _ _ (by omega)) (fun h2 => ?_)
    refine wt_H_if (fun h3 => W _ _ _ (by omega)) (fun h3 => ?_)
    have c1 := wt_nceq h1
    have c2 := wt_nceq h2
    rw [wt_lm1] at c2
    exact B157 K x2 a.1 b.1 a.2 Sa (fun _ => by omega) hK
  unfold wp_md_text
  obtain ⟨s0, ε0⟩ : ∃ o : wt_St, o = wt_sf σ 108 0 (0 : Int32) := ⟨_, rfl⟩
  rw [← ε0]
  have f0 := wt_fr_sf ε0
  have S0 : wt_xS σ s0 := ⟨wt_RI_fno r0 ε0 (Or.inr (by decide +kernel)), wt_fr.tr wt_fr.rf f0 (fun i k h => by (try dsimp only at h); omega) (fun i h => h.elim)⟩
  have B : ∀ y1 : Int32, y1.toInt ≠ 0 ∨ (0 ≤ x1.toInt ∧ x1.toInt ≤ 500) → wt_H (wp_md_text_B30 n x1 y1 s0) (fun q => wt_xE σ q.2) := by
    intro y1 hy
    unfold wp_md_text_B30
    refine wt_H_bi (wq_md_bad n hn y1 (1 : Int32) s0 S0.1 (by omega)) (fun b hb => ?_)
    obtain ⟨fb, rb, vb⟩ := hb
    have SB : wt_xS σ b.2 := wt_xS_fr S0 rb fb (fun i k h => by (try dsimp only at h); omega) (fun i h => h.elim)
    refine wt_H_if (fun h => ?_) (fun h => wt_H_some (wt_xS_E SB g39.2))
    have c := wt_ceq h
    refine wt_H_bi (wq_md_starts n hn x1 b.2 rb (by omega) (by omega)) (fun q5 h5 => ?_)
    obtain ⟨f5, r5, -⟩ := h5
    have S5 : wt_xS σ q5 := wt_xS_fr SB r5 f5 (fun i k h => by (try dsimp only at h); omega) (fun i h => h.elim)
    obtain ⟨s6, ε6⟩ : ∃ o : wt_St, o = wt_sf q5 108 3 (-1 : Int32) := ⟨_, rfl⟩
    rw [← ε6]
    have S6 : wt_xS σ s6 := wt_xS_fr S5 (wt_RI_fno S5.1 ε6 (Or.inr (by decide +kernel))) (wt_fr_sf ε6) (fun i k h => by (try dsimp only at h); omega) (fun i h => h.elim)
    refine wt_H_if (fun h => wt_H_some (wt_xS_E S6 g39.2)) (fun h => ?_)
    refine wt_H_it (fun s : Int32 × wt_St => wt_xS σ s.2) (fun K z Sz hK => ?_) n _ S6
    unfold wp_md_text_B62
    refine wt_H_if (fun h1 => ?_) (fun h1 => B195 z.1 z.2 Sz)
    refine wt_H_if (fun h2 => B84 K z.1 z.2 Sz hK) (fun h2 => ?_)
    exact wt_H_if (fun h2 => B84 K z.1 z.2 Sz hK) (fun h2 => B195 z.1 z.2 Sz)
  refine wt_H_bi (wq_md_in n hn x1 (0 : Int32) (wt_gf s0 108 1) s0 S0.1) (fun q1 h1 => ?_)
  obtain ⟨e1, p1⟩ := h1
  rw [e1]
  unfold wp_md_text_B25
  refine wt_H_if (fun h => B _ (Or.inl (by omega))) (fun h => ?_)
  have c := wt_nceq h
  have g1 : 0 ≤ (wt_gf s0 108 1).toInt ∧ (wt_gf s0 108 1).toInt ≤ 500 := wt_Rf0 S0.1
  exact wt_H_if (fun h => B _ (Or.inr (by omega))) (fun h => B _ (Or.inl (by omega)))
theorem wt_nt_lt {σ σ' : wt_St} {t : Nat} {l : Int} (r : wt_RI σ) (ht : t ≤ 7) (h1 : wt_ga σ' 253 t = wt_ga σ 253 t) (h2 : ∀ j, wt_ga σ' (255 + t) j = wt_ga σ (255 + t) j) (h3 : ∀ i, i = 126 ∨ (193 ≤ i ∧ i < 253) → ∀ j, wt_ga σ' i j = wt_ga σ i j) : wt_nt σ' t l = wt_nt σ t l := by
  unfold wt_nt
  rw [h1]
  have e : (fun k => wt_nw σ' (Int32.toNatClampNeg (wt_ga σ' (255 + t) k)) l) = (fun k => wt_nw σ (Int32.toNatClampNeg (wt_ga σ (255 + t) k)) l) := by
    funext k
    have g := wt_Ra10 r (255 + t) (show 255 ≤ 255 + t by omega) (show 255 + t < 263 by omega) k
    rw [h2 k]
    have gw := wt_tnle (b := 59) g.2
    unfold wt_nw
    rw [h3 126 (Or.inl rfl)]
    have e2 : (fun k' => (wt_ga σ' (193 + Int32.toNatClampNeg (wt_ga σ (255 + t) k)) k').toInt) = (fun k' => (wt_ga σ (193 + Int32.toNatClampNeg (wt_ga σ (255 + t) k)) k').toInt) := by
      funext k'
      rw [h3 _ (Or.inr ⟨by omega, by omega⟩) k']
    rw [e2]
  rw [e]
set_option maxHeartbeats 4000000 in
theorem wt_IV_x {σ σ' : wt_St} {F : Nat → Nat → Prop} {A : Nat → Prop} (v : wt_IV σ) (r' : wt_RI σ') (f : wt_fr F A σ σ') (x : wt_xE σ σ') (h41 : ¬ F 108 41) (hA : ∀ i, i = 126 ∨ (193 ≤ i ∧ i < 253) ∨ i = 275 ∨ i = 276 ∨ (278 ≤ i ∧ i < 282) ∨ i = 111 ∨ (283 ≤ i ∧ i < 286) → ¬ A i) : wt_IV σ' := by
  obtain ⟨v1, v2, v3, v4, v5⟩ := v
  have g41 : 0 ≤ (wt_gf σ 108 41).toInt ∧ (wt_gf σ 108 41).toInt ≤ 3 := wt_Rf9 v1
  have h3 : ∀ i, i = 126 ∨ (193 ≤ i ∧ i < 253) → ∀ j, wt_ga σ' i j = wt_ga σ i j := fun i hi => f.2 i (hA i (by omega))
  have hnt : ∀ (t : Int32) (l : Int), t.toInt < (wt_gf σ 108 39).toInt → -1 ≤ t.toInt → t.toInt ≠ -1 → t.toInt ≤ 7 → wt_nt σ' (Int32.toNatClampNeg t) l = wt_nt σ (Int32.toNatClampNeg t) l := by
    intro t l h1 h2 h4 h5
    have e := wt_tnI (x := t) (by omega)
    have hx := x.2 (Int32.toNatClampNeg t) (by omega)
    exact wt_nt_lt v1 (by omega) hx.1 hx.2 h3
  refine ⟨r', wt_M_fr v2 f (hA 111 (by omega)), fun g hg hne => ?_, wt_PD_fr v4 f (fun i hi => hA i (by omega)), fun i hi => ?_⟩
  · have e275 := f.2 275 (hA 275 (by omega)) g
    rw [e275] at hne ⊢
    have h := v3 g hg hne
    have gt : -1 ≤ (wt_ga σ 275 g).toInt ∧ (wt_ga σ 275 g).toInt ≤ 7 := wt_Ra12 v1 275 (by decide) (by decide) g
    refine ⟨Int.lt_of_lt_of_le h.1 x.1, fun l h0 h1 => ?_⟩
    rw [hnt _ l h.1 gt.1 hne gt.2]
    have e2 : wt_pc σ' g l = wt_pc σ g l := by
      unfold wt_pc
      rw [f.2 276 (hA 276 (by omega)) g]
      have e3 : (fun k => (wt_ga σ' (278 + g) k).toInt / 13) = (fun k => (wt_ga σ (278 + g) k).toInt / 13) := by
        funext k
        rw [f.2 (278 + g) (hA _ (by omega)) k]
      rw [e3]
    rw [e2]
    exact h.2 l h0 h1
  · rw [f.1 108 41 h41] at hi
    obtain ⟨q1, q2, q3⟩ := v5 i hi
    have ef : ∀ j, wt_ga σ' (283 + i) j = wt_ga σ (283 + i) j := f.2 _ (hA _ (by omega))
    refine ⟨fun j hj => by rw [ef]; exact q1 j hj, fun g hg hne => ?_, fun g hg k k' h1 h2 => ?_⟩
    · simp only [ef] at hne ⊢
      have h := q2 g hg hne
      have hr := (q1 (678 + 110 * g) (by omega)).2.2.1 (by omega) (by omega) (by omega)
      refine ⟨Int.lt_of_lt_of_le h.1 x.1, fun l h0 h1 => ?_⟩
      rw [hnt _ l h.1 hr.1 hne hr.2]
      exact h.2 l h0 h1
    · simp only [ef] at h2 ⊢
      exact q3 g hg k k' h1 h2
