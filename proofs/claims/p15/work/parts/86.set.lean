/-! a page is set -/
def wt_sS (σ s : wt_St) : Prop := wt_RI s ∧ wt_fr (fun i k => i = 108 ∧ (k = 0 ∨ k = 54)) (fun i => i = 287 ∨ i = 124 ∨ i = 288) σ s
theorem wt_sS_fr {σ s s' : wt_St} {F : Nat → Nat → Prop} {A : Nat → Prop} (h : wt_sS σ s) (r : wt_RI s') (f : wt_fr F A s s') (hF : ∀ i k, F i k → i = 108 ∧ (k = 0 ∨ k = 54)) (hA : ∀ i, A i → i = 287 ∨ i = 124 ∨ i = 288) : wt_sS σ s' := ⟨r, wt_fr.tr h.2 f hF hA⟩
def wt_sE (s : wt_St) : Prop := wt_PG s ∧ wt_PD s
theorem wt_sS_E {σ s : wt_St} (v : wt_IV σ) (h : wt_sS σ s) : wt_sE s := ⟨wt_PG_fr v.1 v.2.2.1 h.2 (by (try dsimp only); omega) (fun i hi z => by unfold wt_PA at hi; (try dsimp only at z); omega), wt_PD_fr v.2.2.2.1 h.2 (fun i hi z => by (try dsimp only at z); omega)⟩
set_option maxRecDepth 100000 in
set_option maxHeartbeats 4000000 in
theorem wq_md_setH (n : Nat) (hn : 4294967297 < n) (x1 x2 : Int32) (σ : wt_St) (v : wt_IV σ) : wt_H (wp_md_set n x1 x2 σ) (fun q => wt_sE q.2) := by
  have k0 : (0 : Int32).toInt = 0 := by decide
  have k1 : (1 : Int32).toInt = 1 := by decide
  have k2 : (2 : Int32).toInt = 2 := by decide
  have k4 : (4 : Int32).toInt = 4 := by decide
  have g39 : 0 ≤ (wt_gf σ 108 39).toInt ∧ (wt_gf σ 108 39).toInt ≤ 8 := wt_R_gf v.1 7 rfl
  have B87 : ∀ (x3 : Int32) (z : wt_St), wt_sS σ z → 0 ≤ x1.toInt → x1.toInt < (wt_gf σ 108 39).toInt → wt_NB z → (∀ l : Nat, l < 26 → (wt_ga z 287 l).toInt = wt_nt σ (Int32.toNatClampNeg x1) l) → (∀ l : Nat, l < 26 → (wt_ga z 287 l).toInt ≤ wt_go z x2.toInt l) → 0 ≤ x3.toInt → x3.toInt ≤ 4 → wt_H (wp_md_set_B87 n x1 x2 x3 z) (fun q => wt_sE q.2) := by
    intro x3 z Sz hx0 hx1 nb hnt hgo h30 h34
    unfold wp_md_set_B87
    refine wt_H_if (fun h => wt_H_some (wt_sS_E v Sz)) (fun h => ?_)
    have c := wt_nceq h
    have en := wt_tnI h30
    have en1 := wt_tnI hx0
    refine wt_H_bi (wq_md_takes n hn x2 x3 z Sz.1 h30 h34 nb) (fun t ht => ?_)
    obtain ⟨ft, rt, pt⟩ := ht
    have St : wt_sS σ t.2 := wt_sS_fr Sz rt ft (fun i k h => by (try dsimp only at h); omega) (fun i h => by (try dsimp only at h); omega)
    have pt2 : (∀ l : Nat, l < 26 → wt_tk t.2 l = (wt_ga z 287 l).toInt) ∧ wt_TD t.2 x2.toInt x3.toInt := by
      rcases pt with ⟨-, l, hl, hlt⟩ | ⟨-, a, b⟩
      · have := hgo l hl
        omega
      · exact ⟨a, b⟩
    obtain ⟨htk, htd⟩ := pt2
    have g54 : 0 ≤ (wt_gf t.2 108 54).toInt ∧ (wt_gf t.2 108 54).toInt ≤ 108 := wt_R_gf rt 10 rfl
    have n54 := wt_tnI g54.1
    refine wt_H_gd (fun _ => ?_)
    refine wt_H_gd (fun _ => ?_)
    obtain ⟨s1, ε1⟩ : ∃ o : wt_St, o = wt_sa t.2 275 (Int32.toNatClampNeg x3) x1 := ⟨_, rfl⟩
    rw [← ε1]
    have f1 := wt_fr_sa ε1
    have e54 : wt_gf s1 108 54 = wt_gf t.2 108 54 := f1.1 108 54 (fun h => h)
    rw [e54]
    obtain ⟨s2, ε2⟩ : ∃ o : wt_St, o = wt_sa s1 276 (Int32.toNatClampNeg x3) (wt_gf t.2 108 54) := ⟨_, rfl⟩
    rw [← ε2]
    have f2 := wt_fr_sa ε2
    refine wt_H_it (fun s : Int32 × wt_St => wt_fr (fun _ _ => False) (fun i => i = 278 + Int32.toNatClampNeg x3) s2 s.2 ∧ 0 ≤ s.1.toInt ∧ ∀ k : Nat, (k : Int) < s.1.toInt → wt_ga s.2 (278 + Int32.toNatClampNeg x3) k = wt_ga t.2 288 k) (fun K s I hK => ?_) n _ ⟨wt_fr.rf, (show 0 ≤ ((0 : Int32)).toInt by omega), fun k hk => absurd (show (k : Int) < ((0 : Int32)).toInt from hk) (by omega)⟩
    obtain ⟨fs, i1, i2⟩ := I
    have es54 : wt_gf s.2 108 54 = wt_gf t.2 108 54 := (fs.1 108 54 (fun h => h)).trans ((f2.1 108 54 (fun h => h)).trans e54)
    have es288 : ∀ k, wt_ga s.2 288 k = wt_ga t.2 288 k := fun k => (fs.2 288 (by (try dsimp only); omega) k).trans ((f2.2 288 (by (try dsimp only); omega) k).trans (f1.2 288 (by (try dsimp only); omega) k))
    unfold wp_md_set_B122
    rw [es54]
    refine wt_H_if (fun h2 => ?_) (fun h2 => ?_)
    · have c2 := wt_cle h2
      refine wt_H_some ?_
      show wt_sE s.2
      have q275 : wt_ga s.2 275 (Int32.toNatClampNeg x3) = x1 := (fs.2 275 (by (try dsimp only); omega) _).trans ((f2.2 275 (by (try dsimp only); omega) _).trans (wt_v_sa ε1))
      have q276 : wt_ga s.2 276 (Int32.toNatClampNeg x3) = wt_gf t.2 108 54 := (fs.2 276 (by (try dsimp only); omega) _).trans (wt_v_sa ε2)
      have o275 : ∀ g, g ≠ Int32.toNatClampNeg x3 → wt_ga s.2 275 g = wt_ga σ 275 g := fun g hg => (fs.2 275 (by (try dsimp only); omega) _).trans ((f2.2 275 (by (try dsimp only); omega) _).trans ((wt_w_sa ε1 g hg).trans (St.2.2 275 (by (try dsimp only); omega) g)))
      have o276 : ∀ g, g ≠ Int32.toNatClampNeg x3 → wt_ga s.2 276 g = wt_ga σ 276 g := fun g hg => (fs.2 276 (by (try dsimp only); omega) _).trans ((wt_w_sa ε2 g hg).trans ((f1.2 276 (by (try dsimp only); omega) _).trans (St.2.2 276 (by (try dsimp only); omega) g)))
      have orow : ∀ i, i ≠ 278 + Int32.toNatClampNeg x3 → i ≠ 275 → i ≠ 276 → i ≠ 287 → i ≠ 124 → i ≠ 288 → ∀ k, wt_ga s.2 i k = wt_ga σ i k := fun i a1 a2 a3 a4 a5 a6 k => (fs.2 i a1 k).trans ((f2.2 i a3 k).trans ((f1.2 i a2 k).trans (St.2.2 i (by (try dsimp only); omega) k)))
      have e39 : wt_gf s.2 108 39 = wt_gf σ 108 39 := (fs.1 108 39 (fun h => h)).trans ((f2.1 108 39 (fun h => h)).trans ((f1.1 108 39 (fun h => h)).trans (St.2.1 108 39 (by (try dsimp only); omega))))
      have hTA : ∀ i, wt_TA i → ∀ j, wt_ga s.2 i j = wt_ga σ i j := fun i hi => by
        unfold wt_TA at hi
        exact orow i (by omega) (by omega) (by omega) (by omega) (by omega) (by omega)
      refine ⟨fun g hg hne => ?_, fun g hg k k' h1 h2 => ?_⟩
      · by_cases hc : g = Int32.toNatClampNeg x3
        · subst hc
          rw [q275, e39]
          refine ⟨hx1, fun l h0 h1 => ?_⟩
          rw [wt_nt_ta v.1 (by omega) hTA]
          have hl : ((l.toNat : Nat) : Int) = l := Int.toNat_of_nonneg h0
          have a1 := hnt l.toNat (by omega)
          have a2 : wt_ct (fun k => (wt_ga t.2 288 k).toInt / 13) ((l.toNat : Nat) : Int) (Int32.toNatClampNeg (wt_gf t.2 108 54)) = (wt_ga z 287 l.toNat).toInt := htk l.toNat (by omega)
          rw [hl] at a1 a2
          have e3 : wt_pc s.2 (Int32.toNatClampNeg x3) l = wt_ct (fun k => (wt_ga t.2 288 k).toInt / 13) l (Int32.toNatClampNeg (wt_gf t.2 108 54)) := by
            unfold wt_pc
            rw [q276]
            exact wt_ct_congr _ (fun k hk => by
              show (wt_ga s.2 (278 + Int32.toNatClampNeg x3) k).toInt / 13 = (wt_ga t.2 288 k).toInt / 13
              rw [i2 k (by omega)])
          rw [e3]
          omega
        · rw [o275 g hc] at hne ⊢
          rw [e39]
          have h := v.2.2.1 g hg hne
          have gt : -1 ≤ (wt_ga σ 275 g).toInt ∧ (wt_ga σ 275 g).toInt ≤ 7 := wt_R_ga v.1 12 rfl 275 (by decide) (by decide) g
          refine ⟨h.1, fun l h0 h1 => ?_⟩
          rw [wt_nt_ta v.1 (wt_tnle (b := 7) gt.2) hTA]
          have e2 : wt_pc s.2 g l = wt_pc σ g l := by
            unfold wt_pc
            rw [o276 g hc]
            have e3 : (fun k => (wt_ga s.2 (278 + g) k).toInt / 13) = (fun k => (wt_ga σ (278 + g) k).toInt / 13) := by
              funext k
              rw [orow (278 + g) (by omega) (by omega) (by omega) (by omega) (by omega) (by omega) k]
            rw [e3]
          rw [e2]
          exact h.2 l h0 h1
      · by_cases hc : g = Int32.toNatClampNeg x3
        · subst hc
          rw [q276] at h2
          rw [i2 k (by omega), i2 k' (by omega)]
          exact (htd k h2).2.2 k' h1
        · rw [o276 g hc] at h2
          rw [orow (278 + g) (by omega) (by omega) (by omega) (by omega) (by omega) (by omega) k, orow (278 + g) (by omega) (by omega) (by omega) (by omega) (by omega) (by omega) k']
          exact v.2.2.2.1 g hg k k' h1 h2
    · have c2 := wt_ncle h2
      have ei := wt_i1 (c := s.1) (by omega)
      have es := wt_tnI i1
      refine wt_H_gd (fun _ => ?_)
      refine wt_H_gd (fun _ => ?_)
      refine wt_H_gd (fun _ => ?_)
      obtain ⟨s3, ε3⟩ : ∃ o : wt_St, o = wt_sa s.2 (278 + Int32.toNatClampNeg x3) (Int32.toNatClampNeg s.1) (wt_ga s.2 288 (Int32.toNatClampNeg s.1)) := ⟨_, rfl⟩
      rw [← ε3]
      refine hK _ ⟨wt_fr.tr fs (wt_fr_sa ε3) (fun i k h => h) (fun i h => h), (show 0 ≤ (s.1 + (1 : Int32)).toInt by omega), fun k hk => ?_⟩
      have hk' : (k : Int) < (s.1 + (1 : Int32)).toInt := hk
      show wt_ga s3 (278 + Int32.toNatClampNeg x3) k = wt_ga t.2 288 k
      by_cases hc : k = Int32.toNatClampNeg s.1
      · rw [hc, wt_v_sa ε3]; exact es288 _
      · rw [wt_w_sa ε3 k hc]; exact i2 k (by omega)
  have B39 : ∀ (y1 : Int32) (z : wt_St), wt_sS σ z → 0 ≤ x1.toInt → x1.toInt < (wt_gf σ 108 39).toInt → wt_H (wp_md_set_B39 n x1 x2 y1 z) (fun q => wt_sE q.2) := by
    intro y1 z Sz hx0 hx1
    unfold wp_md_set_B39
    have en1 := wt_tnI hx0
    refine wt_H_bi (wq_md_bad n hn y1 (2 : Int32) z Sz.1 (by omega)) (fun b hb => ?_)
    obtain ⟨fb, rb, -⟩ := hb
    have SB : wt_sS σ b.2 := wt_sS_fr Sz rb fb (fun i k h => by (try dsimp only at h); omega) (fun i h => h.elim)
    refine wt_H_if (fun h => ?_) (fun h => wt_H_some (wt_sS_E v SB))
    refine wt_H_bi (wq_md_needsText n hn x1 b.2 rb hx0 (by omega)) (fun d hd => ?_)
    obtain ⟨fd, rd, nb, hnt⟩ := hd
    have SD : wt_sS σ d := wt_sS_fr SB rd fd (fun i k h => h.elim) (fun i h => by (try dsimp only at h); omega)
    have hnt2 : ∀ l : Nat, l < 26 → (wt_ga d 287 l).toInt = wt_nt σ (Int32.toNatClampNeg x1) l := fun l hl => by
      rw [hnt l hl]
      exact wt_nt_ta v.1 (by omega) (fun i hi => SB.2.2 i (by unfold wt_TA at hi; (try dsimp only); omega))
    refine wt_H_bi (wq_md_lackingP n hn x2 d rd) (fun a ha => ?_)
    obtain ⟨ea, pa⟩ := ha
    rw [ea]
    refine wt_H_if (fun h2 => ?_) (fun h2 => wt_H_some (wt_sS_E v SD))
    have c2 := wt_ceq h2
    rw [wt_lm1] at c2
    have hgo : ∀ l : Nat, l < 26 → (wt_ga d 287 l).toInt ≤ wt_go d x2.toInt l := by
      rcases pa with ⟨-, h3⟩ | ⟨h3, -⟩
      · exact h3
      · omega
    refine wt_H_it (fun s : Int32 × wt_St => s.2 = d ∧ 0 ≤ s.1.toInt ∧ s.1.toInt ≤ 4) (fun K s I hK => ?_) n _ ⟨rfl, (show 0 ≤ ((0 : Int32)).toInt by omega), (show ((0 : Int32)).toInt ≤ 4 by omega)⟩
    obtain ⟨i1, i2, i3⟩ := I
    unfold wp_md_set_B66
    rw [i1]
    refine wt_H_if (fun h3 => B87 s.1 d SD hx0 hx1 nb hnt2 hgo i2 i3) (fun h3 => ?_)
    have c3 := wt_ncle h3
    have ei := wt_i1 (c := s.1) (by omega)
    refine wt_H_gd (fun _ => ?_)
    refine wt_H_if (fun h4 => B87 s.1 d SD hx0 hx1 nb hnt2 hgo i2 i3) (fun h4 => ?_)
    exact hK _ ⟨rfl, (show 0 ≤ (s.1 + (1 : Int32)).toInt by omega), (show (s.1 + (1 : Int32)).toInt ≤ 4 by omega)⟩
  unfold wp_md_set
  obtain ⟨s0, ε0⟩ : ∃ o : wt_St, o = wt_sf σ 108 0 (0 : Int32) := ⟨_, rfl⟩
  rw [← ε0]
  have f0 := wt_fr_sf ε0
  have S0 : wt_sS σ s0 := ⟨wt_RI_fno v.1 ε0 (Or.inr (by decide)), wt_fr.tr wt_fr.rf f0 (fun i k h => by (try dsimp only at h); omega) (fun i h => h.elim)⟩
  have B : ∀ y1 : Int32, y1.toInt ≠ 0 ∨ (0 ≤ x1.toInt ∧ x1.toInt < (wt_gf σ 108 39).toInt) → wt_H (wp_md_set_B19 n x1 x2 y1 s0) (fun q => wt_sE q.2) := by
    intro y1 hy
    unfold wp_md_set_B19
    refine wt_H_bi (wq_md_bad n hn y1 (1 : Int32) s0 S0.1 (by omega)) (fun b hb => ?_)
    obtain ⟨fb, rb, vb⟩ := hb
    have SB : wt_sS σ b.2 := wt_sS_fr S0 rb fb (fun i k h => by (try dsimp only at h); omega) (fun i h => h.elim)
    refine wt_H_if (fun h => ?_) (fun h => wt_H_some (wt_sS_E v SB))
    have c := wt_ceq h
    refine wt_H_bi (wq_md_isCopies n hn x2 b.2 rb) (fun d hd => ?_)
    rw [hd.1]
    exact wt_H_if (fun h2 => B39 _ b.2 SB (by omega) (by omega)) (fun h2 => B39 _ b.2 SB (by omega) (by omega))
  refine wt_H_bi (wq_md_isText n hn x1 s0 S0.1) (fun q1 h1 => ?_)
  obtain ⟨e1, p1⟩ := h1
  rw [e1]
  refine wt_H_if (fun h => B _ (Or.inl (by omega))) (fun h => ?_)
  have c := wt_nceq h
  rw [f0.1 108 39 (by (try dsimp only); omega)] at p1
  exact B _ (Or.inr (by omega))
