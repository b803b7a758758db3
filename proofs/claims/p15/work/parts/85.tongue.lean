/-! a tongue is read: either nothing of the texts and pages has changed, or no page stands and no image is kept -/
def wt_gS (σ s : wt_St) : Prop := wt_RI s ∧ wt_fr (fun i k => i = 108 ∧ k ≠ 39 ∧ k ≠ 41) (fun i => ¬ wt_PA i) σ s
theorem wt_gS_fr {σ s s' : wt_St} {F : Nat → Nat → Prop} {A : Nat → Prop} (h : wt_gS σ s) (r : wt_RI s') (f : wt_fr F A s s') (hF : ∀ i k, F i k → i = 108 ∧ k ≠ 39 ∧ k ≠ 41) (hA : ∀ i, A i → ¬ wt_PA i) : wt_gS σ s' := ⟨r, wt_fr.tr h.2 f hF hA⟩
def wt_gE (σ s : wt_St) : Prop := ((∀ i, wt_PA i → ∀ j, wt_ga s i j = wt_ga σ i j) ∧ wt_gf s 108 39 = wt_gf σ 108 39 ∧ wt_gf s 108 41 = wt_gf σ 108 41) ∨ ((∀ g, g < 4 → (wt_ga s 275 g).toInt = -1) ∧ (wt_gf s 108 41).toInt = 0)
theorem wt_gS_E {σ s : wt_St} (h : wt_gS σ s) : wt_gE σ s := Or.inl ⟨fun i hi => h.2.2 i (fun z => z hi), h.2.1 108 39 (fun z => z.2.1 rfl), h.2.1 108 41 (fun z => z.2.2 rfl)⟩
set_option maxRecDepth 100000 in
set_option maxHeartbeats 4000000 in
theorem wq_md_tongueH (n : Nat) (hn : 4294967297 < n) (x1 : Int32) (σ : wt_St) (r0 : wt_RI σ) : wt_H (wp_md_tongue n x1 σ) (fun q => wt_gE σ q.2) := by
  have k0 : (0 : Int32).toInt = 0 := by decide
  have k1 : (1 : Int32).toInt = 1 := by decide
  have k4 : (4 : Int32).toInt = 4 := by decide
  have k44 : (44 : Int32).toInt = 44 := by decide
  have k59 : (59 : Int32).toInt = 59 := by decide
  have B272 : ∀ (z : wt_St), wt_RI z → (wt_gf z 108 41).toInt = 0 → wt_H (wt_it (wp_md_tongue_B272 n) n ((0 : Int32), z)) (fun q => wt_gE σ q.2) := by
    intro z rz hz
    refine wt_H_it (fun s : Int32 × wt_St => wt_RI s.2 ∧ (wt_gf s.2 108 41).toInt = 0 ∧ 0 ≤ s.1.toInt ∧ ∀ g : Nat, (g : Int) < s.1.toInt → (wt_ga s.2 275 g).toInt = -1) (fun K s I hK => ?_) n _ ⟨rz, hz, (show 0 ≤ ((0 : Int32)).toInt by omega), fun g hg => absurd (show (g : Int) < ((0 : Int32)).toInt from hg) (by omega)⟩
    obtain ⟨i1, i2, i3, i4⟩ := I
    unfold wp_md_tongue_B272
    refine wt_H_if (fun h => ?_) (fun h => ?_)
    · have c := wt_cle h
      exact wt_H_some (Or.inr ⟨fun g hg => i4 g (by omega), i2⟩)
    · have c := wt_ncle h
      have ei := wt_i1 (c := s.1) (by omega)
      have en := wt_tnI i3
      refine wt_H_gd (fun _ => ?_)
      unfold wp_md_tongue_B292
      refine wt_H_if (fun h2 => ?_) (fun h2 => ?_)
      · refine hK _ ⟨i1, i2, (show 0 ≤ (s.1 + (1 : Int32)).toInt by omega), fun g hg => ?_⟩
        have hg' : (g : Int) < (s.1 + (1 : Int32)).toInt := hg
        show (wt_ga s.2 275 g).toInt = -1
        by_cases hc : g = Int32.toNatClampNeg s.1
        · rw [hc]; exact (wt_ceq h2).trans wt_lm1
        · exact i4 g (by omega)
      · refine wt_H_bi (wq_md_takesApartP n hn s.1 s.2 i1 i3 (by omega)) (fun t ht => ?_)
        obtain ⟨ft, rt, z1, z2⟩ := ht
        refine hK _ ⟨rt, ?_, (show 0 ≤ (s.1 + (1 : Int32)).toInt by omega), fun g hg => ?_⟩
        · show (wt_gf t 108 41).toInt = 0
          rw [ft.1 108 41 (fun h => h)]
          exact i2
        · have hg' : (g : Int) < (s.1 + (1 : Int32)).toInt := hg
          show (wt_ga t 275 g).toInt = -1
          by_cases hc : g = Int32.toNatClampNeg s.1
          · rw [hc]; exact z1
          · rw [z2 g hc]; exact i4 g (by omega)
  have B175 : ∀ (z : wt_St), wt_RI z → wt_H (wt_it (wp_md_tongue_B175 n) n ((0 : Int32), z)) (fun q => wt_gE σ q.2) := by
    intro z rz
    refine wt_H_it (fun s : Int32 × wt_St => wt_RI s.2) (fun K s I hK => ?_) n _ rz
    unfold wp_md_tongue_B175
    refine wt_H_if (fun h => ?_) (fun h => ?_)
    · obtain ⟨s1, ε1⟩ : ∃ o : wt_St, o = wt_sf s.2 108 39 (0 : Int32) := ⟨_, rfl⟩
      rw [← ε1]
      have r1 := wt_Rm7 I ε1 (show 0 ≤ ((0 : Int32)).toInt by omega) (show ((0 : Int32)).toInt ≤ 8 by omega)
      obtain ⟨s2, ε2⟩ : ∃ o : wt_St, o = wt_sf s1 108 40 (0 : Int32) := ⟨_, rfl⟩
      rw [← ε2]
      have r2 := wt_Rm8 r1 ε2 (show 0 ≤ ((0 : Int32)).toInt by omega) (show ((0 : Int32)).toInt ≤ 10 by omega)
      obtain ⟨s3, ε3⟩ : ∃ o : wt_St, o = wt_sf s2 108 41 (0 : Int32) := ⟨_, rfl⟩
      rw [← ε3]
      have r3 := wt_Rm9 r2 ε3 (show 0 ≤ ((0 : Int32)).toInt by omega) (show ((0 : Int32)).toInt ≤ 3 by omega)
      exact B272 s3 r3 ((wt_ceq (wt_v_sf ε3)).trans k0)
    · refine wt_H_gd (fun g1 => ?_)
      have gi := wt_ixn g1
      have en := wt_tnI gi.1
      refine wt_H_gd (fun _ => ?_)
      refine wt_H_gd (fun _ => ?_)
      refine wt_H_gd (fun _ => ?_)
      refine wt_H_gd (fun _ => ?_)
      refine wt_H_gd (fun _ => ?_)
      have a5 : 0 ≤ (wt_ga s.2 125 (Int32.toNatClampNeg s.1)).toInt ∧ (wt_ga s.2 125 (Int32.toNatClampNeg s.1)).toInt ≤ 9 := wt_Ra5 I 125 (by decide) (by decide) _
      obtain ⟨s1, ε1⟩ : ∃ o : wt_St, o = wt_sa s.2 126 (Int32.toNatClampNeg s.1) (wt_ga s.2 125 (Int32.toNatClampNeg s.1)) := ⟨_, rfl⟩
      rw [← ε1]
      have r1 := wt_Rn5 I ε1 (by decide) (by decide) a5.1 a5.2
      have a6 : 0 ≤ (wt_ga s1 127 (Int32.toNatClampNeg s.1)).toInt ∧ (wt_ga s1 127 (Int32.toNatClampNeg s.1)).toInt ≤ 3 := wt_Ra6 r1 127 (by decide) (by decide) _
      obtain ⟨s2, ε2⟩ : ∃ o : wt_St, o = wt_sa s1 128 (Int32.toNatClampNeg s.1) (wt_ga s1 127 (Int32.toNatClampNeg s.1)) := ⟨_, rfl⟩
      rw [← ε2]
      have r2 := wt_Rn6 r1 ε2 (by decide) (by decide) a6.1 a6.2
      obtain ⟨s3, ε3⟩ : ∃ o : wt_St, o = wt_sa s2 130 (Int32.toNatClampNeg s.1) (wt_ga s2 129 (Int32.toNatClampNeg s.1)) := ⟨_, rfl⟩
      rw [← ε3]
      have r3 := wt_RI_no r2 ε3 129 132 (by decide +kernel) (by decide) (by decide)
      refine wt_H_it (fun s : Int32 × wt_St => wt_RI s.2) (fun K2 s' I' hK2 => ?_) n _ r3
      unfold wp_md_tongue_B221
      refine wt_H_if (fun h2 => hK _ I') (fun h2 => ?_)
      refine wt_H_gd (fun _ => ?_)
      refine wt_H_gd (fun _ => ?_)
      refine wt_H_gd (fun _ => ?_)
      refine wt_H_gd (fun _ => ?_)
      have a7 : 0 ≤ (wt_ga s'.2 (132 + Int32.toNatClampNeg s.1) (Int32.toNatClampNeg s'.1)).toInt ∧ (wt_ga s'.2 (132 + Int32.toNatClampNeg s.1) (Int32.toNatClampNeg s'.1)).toInt ≤ 25 := wt_Ra7 I' (132 + Int32.toNatClampNeg s.1) (show 132 ≤ 132 + Int32.toNatClampNeg s.1 by omega) (show 132 + Int32.toNatClampNeg s.1 < 192 by omega) _
      obtain ⟨s4, ε4⟩ : ∃ o : wt_St, o = wt_sa s'.2 (193 + Int32.toNatClampNeg s.1) (Int32.toNatClampNeg s'.1) (wt_ga s'.2 (132 + Int32.toNatClampNeg s.1) (Int32.toNatClampNeg s'.1)) := ⟨_, rfl⟩
      rw [← ε4]
      exact hK2 _ (wt_Rn8 I' ε4 (show 193 ≤ 193 + Int32.toNatClampNeg s.1 by omega) (show 193 + Int32.toNatClampNeg s.1 < 253 by omega) a7.1 a7.2)
  have B134 : ∀ (z : wt_St), wt_gS σ z → wt_H (wp_md_tongue_B134 n z) (fun q => wt_gE σ q.2) := by
    intro z Sz
    unfold wp_md_tongue_B134
    obtain ⟨s1, ε1⟩ : ∃ o : wt_St, o = wt_sf z 108 3 (wt_gf z 108 6) := ⟨_, rfl⟩
    rw [← ε1]
    have S1 : wt_gS σ s1 := wt_gS_fr Sz (wt_RI_fno Sz.1 ε1 (Or.inr (by decide +kernel))) (wt_fr_sf ε1) (fun i k h => by (try dsimp only at h); omega) (fun i h => h.elim)
    refine wt_H_if (fun h => ?_) (fun h => wt_H_some (wt_gS_E S1))
    have g27 : 0 ≤ (wt_gf s1 108 27).toInt ∧ (wt_gf s1 108 27).toInt ≤ 60 := wt_Rf5 S1.1
    obtain ⟨s2, ε2⟩ : ∃ o : wt_St, o = wt_sf s1 108 28 (wt_gf s1 108 27) := ⟨_, rfl⟩
    rw [← ε2]
    have r2 := wt_Rm6 S1.1 ε2 g27.1 g27.2
    obtain ⟨s3, ε3⟩ : ∃ o : wt_St, o = wt_sf s2 108 30 (wt_gf s2 108 29) := ⟨_, rfl⟩
    rw [← ε3]
    exact B175 s3 (wt_RI_fno r2 ε3 (Or.inr (by decide +kernel)))
  have noA : ∀ i, i = 125 ∨ i = 127 ∨ i = 129 ∨ (132 ≤ i ∧ i < 192) → ¬ wt_PA i := fun i h => by unfold wt_PA; omega
  have B121 : ∀ (K : wt_St → Option (Int32 × wt_St)) (z : wt_St), wt_gS σ z → (∀ s', wt_gS σ s' → wt_H (K s') (fun q => wt_gE σ q.2)) → wt_H (wp_md_tongue_B121 n K z) (fun q => wt_gE σ q.2) := by
    intro K z Sz hK
    unfold wp_md_tongue_B121
    refine wt_H_bi (wq_md_closes n hn (59 : Int32) z Sz.1 (by omega)) (fun a ha => ?_)
    obtain ⟨fa, ra, -⟩ := ha
    have Sa := wt_gS_fr Sz ra fa (fun i k h => by (try dsimp only at h); omega) (fun i h => h.elim)
    refine wt_H_bi (wq_md_blanks n hn a ra) (fun b hb => ?_)
    obtain ⟨fb, rb, -⟩ := hb
    exact hK _ (wt_gS_fr Sa rb fb (fun i k h => by (try dsimp only at h); omega) (fun i h => h.elim))
  unfold wp_md_tongue
  obtain ⟨s0, ε0⟩ : ∃ o : wt_St, o = wt_sf σ 108 0 (0 : Int32) := ⟨_, rfl⟩
  rw [← ε0]
  have f0 := wt_fr_sf ε0
  have S0 : wt_gS σ s0 := ⟨wt_RI_fno r0 ε0 (Or.inr (by decide +kernel)), wt_fr.tr wt_fr.rf f0 (fun i k h => by (try dsimp only at h); omega) (fun i h => h.elim)⟩
  have B : ∀ y1 : Int32, y1.toInt ≠ 0 ∨ (0 ≤ x1.toInt ∧ x1.toInt ≤ 500) → wt_H (wp_md_tongue_B23 n x1 y1 s0) (fun q => wt_gE σ q.2) := by
    intro y1 hy
    unfold wp_md_tongue_B23
    refine wt_H_bi (wq_md_bad n hn y1 (1 : Int32) s0 S0.1 (by omega)) (fun b hb => ?_)
    obtain ⟨fb, rb, vb⟩ := hb
    have SB : wt_gS σ b.2 := wt_gS_fr S0 rb fb (fun i k h => by (try dsimp only at h); omega) (fun i h => h.elim)
    refine wt_H_if (fun h => ?_) (fun h => wt_H_some (wt_gS_E SB))
    have c := wt_ceq h
    refine wt_H_bi (wq_md_starts n hn x1 b.2 rb (by omega) (by omega)) (fun q5 h5 => ?_)
    obtain ⟨f5, r5, -⟩ := h5
    have S5 : wt_gS σ q5 := wt_gS_fr SB r5 f5 (fun i k h => by (try dsimp only at h); omega) (fun i h => h.elim)
    obtain ⟨s6, ε6⟩ : ∃ o : wt_St, o = wt_sf q5 108 27 (0 : Int32) := ⟨_, rfl⟩
    rw [← ε6]
    have S6 : wt_gS σ s6 := wt_gS_fr S5 (wt_Rm5 r5 ε6 (show 0 ≤ ((0 : Int32)).toInt by omega) (show ((0 : Int32)).toInt ≤ 60 by omega)) (wt_fr_sf ε6) (fun i k h => by (try dsimp only at h); omega) (fun i h => h.elim)
    obtain ⟨s7, ε7⟩ : ∃ o : wt_St, o = wt_sf s6 108 29 (0 : Int32) := ⟨_, rfl⟩
    rw [← ε7]
    have S7 : wt_gS σ s7 := wt_gS_fr S6 (wt_RI_fno S6.1 ε7 (Or.inr (by decide +kernel))) (wt_fr_sf ε7) (fun i k h => by (try dsimp only at h); omega) (fun i h => h.elim)
    refine wt_H_it (fun s : wt_St => wt_gS σ s) (fun K z Sz hK => ?_) n _ S7
    unfold wp_md_tongue_B47
    refine wt_H_if (fun h1 => ?_) (fun h1 => B134 z Sz)
    refine wt_H_if (fun h2 => B134 z Sz) (fun h2 => ?_)
    refine wt_H_bi (wq_md_reads n hn (0 : Int32) z Sz.1 (by omega) (by omega)) (fun a ha => ?_)
    obtain ⟨fa, ra, -⟩ := ha
    have Sa : wt_gS σ a := wt_gS_fr Sz ra fa (fun i k h => by (try dsimp only at h); omega) noA
    refine wt_H_bi (wq_md_blanks n hn a ra) (fun a2 ha2 => ?_)
    obtain ⟨fa2, ra2, -⟩ := ha2
    have Sa2 : wt_gS σ a2 := wt_gS_fr Sa ra2 fa2 (fun i k h => by (try dsimp only at h); omega) (fun i h => h.elim)
    refine wt_H_it (fun s : Int32 × wt_St => wt_gS σ s.2 ∧ 0 ≤ s.1.toInt ∧ s.1.toInt ≤ 6 ∧ (s.1.toInt = 6 → (wt_gf s.2 108 5).toInt ≠ 0)) (fun K2 s I hK2 => ?_) n _ ⟨Sa2, (show 0 ≤ ((1 : Int32)).toInt by omega), (show ((1 : Int32)).toInt ≤ 6 by omega), fun h => absurd (show ((1 : Int32)).toInt = 6 from h) (by omega)⟩
    obtain ⟨Ss, i1, i2, i3⟩ := I
    unfold wp_md_tongue_B76
    refine wt_H_if (fun h3 => ?_) (fun h3 => B121 K s.2 Ss hK)
    have c3 := wt_ceq h3
    have i5 : s.1.toInt ≤ 5 := by
      by_cases h6 : s.1.toInt = 6
      · exact absurd (c3.trans k0) (i3 h6)
      · omega
    have g4 : 0 ≤ (wt_gf s.2 108 4).toInt ∧ (wt_gf s.2 108 4).toInt ≤ 500 := wt_Rf2 Ss.1
    have g2 : 0 ≤ (wt_gf s.2 108 2).toInt ∧ (wt_gf s.2 108 2).toInt ≤ 500 := wt_Rf1 Ss.1
    refine wt_H_bi (wq_md_byteAt n hn (wt_gf s.2 108 4) s.2 Ss.1 g4.1) (fun d hd => ?_)
    obtain ⟨ed, pd⟩ := hd
    rw [ed]
    refine wt_H_if (fun h4 => ?_) (fun h4 => B121 K s.2 Ss hK)
    have c4 := wt_ceq h4
    have e4 := wt_i1 (c := wt_gf s.2 108 4) (by omega)
    obtain ⟨s8, ε8⟩ : ∃ o : wt_St, o = wt_sf s.2 108 4 ((wt_gf s.2 108 4) + (1 : Int32)) := ⟨_, rfl⟩
    rw [← ε8]
    have S8 : wt_gS σ s8 := wt_gS_fr Ss (wt_Rm2 Ss.1 ε8 (show 0 ≤ ((wt_gf s.2 108 4) + (1 : Int32)).toInt by omega) (show ((wt_gf s.2 108 4) + (1 : Int32)).toInt ≤ 500 by omega)) (wt_fr_sf ε8) (fun i k h => by (try dsimp only at h); omega) (fun i h => h.elim)
    refine wt_H_bi (wq_md_reads n hn s.1 s8 S8.1 i1 i5) (fun a3 ha3 => ?_)
    obtain ⟨fa3, ra3, pa3, -⟩ := ha3
    have Sa3 : wt_gS σ a3 := wt_gS_fr S8 ra3 fa3 (fun i k h => by (try dsimp only at h); omega) noA
    refine wt_H_bi (wq_md_blanks n hn a3 ra3) (fun a4 ha4 => ?_)
    obtain ⟨fa4, ra4, -⟩ := ha4
    have Sa4 : wt_gS σ a4 := wt_gS_fr Sa3 ra4 fa4 (fun i k h => by (try dsimp only at h); omega) (fun i h => h.elim)
    have ei := wt_i1 (c := s.1) (by omega)
    refine hK2 _ ⟨Sa4, (show 0 ≤ (s.1 + (1 : Int32)).toInt by omega), (show (s.1 + (1 : Int32)).toInt ≤ 6 by omega), fun h => ?_⟩
    have h' : (s.1 + (1 : Int32)).toInt = 6 := h
    show (wt_gf a4 108 5).toInt ≠ 0
    rw [fa4.1 108 5 (by (try dsimp only); omega)]
    exact pa3 (by omega)
  refine wt_H_bi (wq_md_in n hn x1 (0 : Int32) (wt_gf s0 108 1) s0 S0.1) (fun q1 h1 => ?_)
  obtain ⟨e1, p1⟩ := h1
  rw [e1]
  refine wt_H_if (fun h => B _ (Or.inl (by omega))) (fun h => ?_)
  have c := wt_nceq h
  have g1 : 0 ≤ (wt_gf s0 108 1).toInt ∧ (wt_gf s0 108 1).toInt ≤ 500 := wt_Rf0 S0.1
  exact B _ (Or.inr (by omega))
set_option maxHeartbeats 4000000 in
theorem wt_IV_g {σ σ' : wt_St} {F : Nat → Nat → Prop} {A : Nat → Prop} (v : wt_IV σ) (r' : wt_RI σ') (f : wt_fr F A σ σ') (x : wt_gE σ σ') (hA : ∀ i, i = 276 ∨ (278 ≤ i ∧ i < 282) ∨ i = 111 ∨ (283 ≤ i ∧ i < 286) → ¬ A i) : wt_IV σ' := by
  obtain ⟨v1, v2, v3, v4, v5⟩ := v
  have g41 : 0 ≤ (wt_gf σ 108 41).toInt ∧ (wt_gf σ 108 41).toInt ≤ 3 := wt_Rf9 v1
  rcases x with ⟨x1, x2, x3⟩ | ⟨x1, x2⟩
  · refine ⟨r', wt_M_fr v2 f (hA 111 (by omega)), wt_PG_eq v1 v3 x2 x1, wt_PD_fr v4 f (fun i hi => hA i (by omega)), fun i hi => ?_⟩
    rw [x3] at hi
    exact wt_KK_eq v1 (v5 i hi) x2 (fun j hj => x1 j (by unfold wt_TA at hj; unfold wt_PA; omega)) (f.2 _ (hA _ (by omega)))
  · exact ⟨r', wt_M_fr v2 f (hA 111 (by omega)), fun g hg hne => absurd (x1 g hg) hne, wt_PD_fr v4 f (fun i hi => hA i (by omega)), fun i hi => by omega⟩
