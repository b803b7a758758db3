theorem wt_HH_rb {α β β' β'' : Type} {p : Option α} {x : Option β} {f : β → Option β'} {g : β' → Option β''} {P : β → Prop} {Q : α → β'' → Prop} (h : wt_H x P) (k : ∀ a, P a → wt_HH p ((f a).bind g) Q) : wt_HH p ((x.bind f).bind g) Q := by
  cases x with
  | none => exact wt_HH_nr
  | some a => exact k a (h a rfl)
/-- pieces of a text are laid on page g, letter by letter -/
def wu_ST (g : Nat) (s0 z0 s z : wt_St) (l i K : Nat) : Prop := (wt_fr (fun _ _ => False) (fun i => i = 41 ∨ i = 42) s0 s ∧ wt_fr (fun i k => i = 108 ∧ k = 54) (fun i => i = 124 ∨ i = 288) z0 z) ∧ ((wt_gf z 108 54).toInt = (K : Int) ∧ K ≤ 108) ∧ (∀ l' i' : Nat, l' < 26 → (i' : Int) < (wt_ga z0 111 l').toInt → wt_ga s 41 (12 * l' + i') = wt_ga z 124 (13 * l' + i') ∧ (wt_ga z 124 (13 * l' + i') = wt_ga z0 124 (13 * l' + i') ∨ ((wt_ga z0 124 (13 * l' + i')).toInt = -1 ∧ (wt_ga z 124 (13 * l' + i')).toInt = (g : Int))) ∧ ((wt_ga z 124 (13 * l' + i')).toInt ≠ (g : Int) → wt_ga s 42 (12 * l' + i') = wt_ga s0 42 (12 * l' + i'))) ∧ (∀ l' i' : Nat, l' < 26 → i' < 12 → (wt_ga z0 111 l').toInt ≤ (i' : Int) → wt_ga s 41 (12 * l' + i') = wt_ga s0 41 (12 * l' + i')) ∧ (∀ k : Nat, k < K → ∃ l' i' : Nat, l' < 26 ∧ (i' : Int) < (wt_ga z0 111 l').toInt ∧ (wt_ga z 288 k).toInt = ((13 * l' + i' : Nat) : Int) ∧ (wt_ga z 124 (13 * l' + i')).toInt = (g : Int) ∧ (wt_ga s 42 (12 * l' + i')).toInt = wt_ct (fun k' => (wt_ga z 288 k').toInt / 13) (l' : Int) k) ∧ (∀ l' i' : Nat, l' < 26 → (i' : Int) < (wt_ga z0 111 l').toInt → (wt_ga z 124 (13 * l' + i')).toInt = (g : Int) → ∃ k : Nat, k < K ∧ (wt_ga z 288 k).toInt = ((13 * l' + i' : Nat) : Int)) ∧ wt_ct (fun k => (wt_ga z 288 k).toInt / 13) (l : Int) K = (i : Int) ∧ ∀ l'' : Nat, l < l'' → wt_ct (fun k => (wt_ga z 288 k).toInt / 13) (l'' : Int) K = 0
theorem wt_ct_s (f : Nat → Int) (l : Int) (m : Nat) : wt_ct f l (m + 1) = wt_ct f l m + if f m = l then 1 else 0 := rfl
set_option maxRecDepth 100000 in
set_option maxHeartbeats 8000000 in
theorem wr_standLoop (n : Nat) (hn : 4294967297 < n) {g : Nat} {x1 x2 x3 : Int32} {s0 z0 : wt_St} (hg : x3.toInt = (g : Int)) (hg4 : g < 4) (sk : wu_SK 40 s0 z0) (hh : wt_gf s0 39 9 = wt_gf z0 108 26) (nd : ∀ l, l < 26 → wt_ga s0 78 l = wt_ga z0 287 l) (h54 : (wt_gf z0 108 54).toInt = 0) (no : ∀ l i : Nat, l < 26 → (i : Int) < (wt_ga z0 111 l).toInt → (wt_ga z0 124 (13 * l + i)).toInt ≠ (g : Int)) : wt_HH (wt_it (wp_pg_stand_B53 n x1 x2 x3) n ((0 : Int32), s0)) (wt_it (wp_md_takes_B18 n x2 x3) n ((0 : Int32), z0)) (fun q y => y.1 = 1 ∧ ∃ s K, q = (x3, wt_sa s 43 g x1) ∧ wu_ST g s0 z0 s y.2 26 0 K) := by
  have k0 : (0 : Int32).toInt = 0 := by decide
  have k1 : (1 : Int32).toInt = 1 := by decide
  have k26 : (26 : Int32).toInt = 26 := by decide
  have l41 : wt_ln 41 = 312 := by decide
  have l42 : wt_ln 42 = 312 := by decide
  refine wt_HH_it (fun (t : Int32 × wt_St) (u : Int32 × wt_St) => u.1 = t.1 ∧ 0 ≤ t.1.toInt ∧ t.1.toInt ≤ 26 ∧ ∃ K, wu_ST g s0 z0 t.2 u.2 (Int32.toNatClampNeg t.1) 0 K) (fun KA KM t u I hK => ?_) n n _ _ ⟨rfl, by show 0 ≤ ((0 : Int32)).toInt; omega, by show ((0 : Int32)).toInt ≤ 26; omega, 0, ⟨wt_fr.rf, wt_fr.rf⟩, ⟨h54, by omega⟩, fun l' i' hl hi => ⟨((sk l' hl).2.2 i' (by rw [(sk l' hl).1]; exact hi)).2, Or.inl rfl, fun _ => rfl⟩, fun _ _ _ _ _ => rfl, fun k hk => absurd hk (by omega), fun l' i' hl hi ho => absurd ho (no l' i' hl hi), rfl, fun _ _ => rfl⟩
  obtain ⟨e1, i0, i1, K, st⟩ := I
  have et := wt_tnI i0
  unfold wp_pg_stand_B53 wp_md_takes_B18
  rw [e1]
  by_cases hc : (26 : Int) ≤ t.1.toInt
  · rw [if_pos (Int32.le_iff_toInt_le.mpr (by omega)), if_pos (Int32.le_iff_toInt_le.mpr (by omega))]
    refine wt_HH_l (wh_put n (k := g) hg (by rw [show wt_ln 43 = 4 from by decide]; exact hg4)) (fun q7 ε7 => ?_)
    subst ε7
    have e26 : Int32.toNatClampNeg t.1 = 26 := by omega
    rw [e26] at st
    exact wt_HH_some ⟨rfl, t.2, K, rfl, st⟩
  · rw [if_neg (fun h => by have := wt_cle h; omega), if_neg (fun h => by have := wt_cle h; omega)]
    have ei := wt_i1 (c := t.1) (by omega)
    refine wt_HH_it (fun (p : Int32 × wt_St) (r : Int32 × wt_St) => r.1 = p.1 ∧ 0 ≤ p.1.toInt ∧ ∃ K, wu_ST g s0 z0 p.2 r.2 (Int32.toNatClampNeg t.1) (Int32.toNatClampNeg p.1) K) (fun KB KN p r J hK2 => ?_) n n _ _ ⟨rfl, by show 0 ≤ ((0 : Int32)).toInt; omega, K, by show wu_ST g s0 z0 t.2 u.2 _ (Int32.toNatClampNeg (0 : Int32)) K; rw [wt_tn0]; exact st⟩
    obtain ⟨f1, j0, K, st⟩ := J
    have ep := wt_tnI j0
    obtain ⟨⟨fs, fz⟩, ⟨s1, s2⟩, s3, s4, s5, s6, s7, s8⟩ := st
    unfold wp_pg_stand_B66 wp_md_takes_B27
    rw [f1]
    refine wt_HH_gl (fun _ => ?_)
    refine wt_HH_gr (fun _ => ?_)
    have nde : wt_ga p.2 78 (Int32.toNatClampNeg t.1) = wt_ga r.2 287 (Int32.toNatClampNeg t.1) := by
      rw [fs.2 78 (by decide), fz.2 287 (by decide)]
      exact nd _ (by omega)
    rw [nde]
    by_cases hd : (wt_ga r.2 287 (Int32.toNatClampNeg t.1)) ≤ p.1
    · rw [if_pos hd, if_pos hd]
      refine hK _ _ ⟨rfl, by show 0 ≤ (t.1 + (1 : Int32)).toInt; omega, by show (t.1 + (1 : Int32)).toInt ≤ 26; omega, K, ⟨fs, fz⟩, ⟨s1, s2⟩, s3, s4, s5, s6, ?_, fun l'' hl'' => ?_⟩
      · have e := wt_tnI (x := t.1 + (1 : Int32)) (by omega)
        exact s8 _ (by show _ < Int32.toNatClampNeg (t.1 + (1 : Int32)); omega)
      · have e := wt_tnI (x := t.1 + (1 : Int32)) (by omega)
        exact s8 _ (by have hl : Int32.toNatClampNeg (t.1 + (1 : Int32)) < l'' := hl''; omega)
    · rw [if_neg hd, if_neg hd]
      have hd' := wt_ncle hd
      obtain ⟨m, em⟩ : ∃ m : Nat, (wt_ga s0 5 (Int32.toNatClampNeg t.1)).toInt = (m : Int) := ⟨_, (wt_tnI (sk _ (show Int32.toNatClampNeg t.1 < 26 by omega)).2.1.1).symm⟩
      obtain ⟨k1', k2', k3'⟩ := sk (Int32.toNatClampNeg t.1) (by omega)
      have em0 : (wt_ga z0 111 (Int32.toNatClampNeg t.1)).toInt = (m : Int) := by rw [← k1']; exact em
      refine wt_HH_b (wr_choose n hn (a := 40) (l := Int32.toNatClampNeg t.1) (m := m) (xt := (0 : Int32)) (by decide) (by omega) (by omega) (by rw [fs.2 5 (by decide)]; exact em) (by rw [fz.2 111 (by decide)]; exact em0) (by omega) (by rw [fs.1 39 9 (fun h => h), fz.1 108 26 (by decide)]; exact hh) (fun i hi => ?_)) (fun q10 y6 h10 => ?_)
      · obtain ⟨c1, c2, c3⟩ := s3 (Int32.toNatClampNeg t.1) i (by omega) (by omega)
        refine ⟨⟨fun h => by rw [← c1]; exact h.2, fun h => ⟨wu_bt0 _, by rw [c1]; exact h⟩⟩, fun _ => ?_⟩
        rw [fs.2 40 (by decide), fz.2 121 (by decide)]
        exact (k3' i (by omega)).1
      · obtain ⟨a1, a2, a3⟩ := h10
        rw [a1, a2]
        refine wt_HH_gr (fun gd => ?_)
        have gd' := wt_ixn gd
        rcases a3 with ⟨-, b2⟩ | ⟨i1', b1, b2, b3, b4, b5⟩
        · exfalso
          have := wt_ceq b2
          rw [wt_lm1] at this
          omega
        · have ey : Int32.toNatClampNeg y6.1 = 13 * Int32.toNatClampNeg t.1 + i1' := wt_tnN b3
          rw [ey]
          refine wt_HH_l (wh_put n (k := 12 * Int32.toNatClampNeg t.1 + i1') b2 (by rw [l41]; omega)) (fun q11 δ1 => ?_)
          refine wt_HH_l (wh_put n (k := 12 * Int32.toNatClampNeg t.1 + i1') b2 (by rw [l42]; omega)) (fun q12 δ2 => ?_)
          have d1 := wt_fr_sa δ1
          have d2 := wt_fr_sa δ2
          obtain ⟨z1, ε1⟩ : ∃ o : wt_St, o = wt_sa r.2 124 (13 * Int32.toNatClampNeg t.1 + i1') x3 := ⟨_, rfl⟩
          rw [← ε1]
          have h1 := wt_fr_sa ε1
          have e54 : wt_gf z1 108 54 = wt_gf r.2 108 54 := h1.1 108 54 (fun h => h)
          have eK : Int32.toNatClampNeg (wt_gf r.2 108 54) = K := wt_tnN s1
          rw [e54, eK]
          refine wt_HH_gr (fun gd2 => ?_)
          have gd2' : K < 108 := by
            rcases Nat.lt_or_ge K 108 with h | h
            · exact h
            · exact absurd (Or.inr h) gd2
          obtain ⟨z2, ε2⟩ : ∃ o : wt_St, o = wt_sa z1 288 K y6.1 := ⟨_, rfl⟩
          rw [← ε2]
          have h2 := wt_fr_sa ε2
          have e542 : wt_gf z2 108 54 = wt_gf r.2 108 54 := (h2.1 108 54 (fun h => h)).trans e54
          rw [e542]
          obtain ⟨z3, ε3⟩ : ∃ o : wt_St, o = wt_sf z2 108 54 ((wt_gf r.2 108 54) + (1 : Int32)) := ⟨_, rfl⟩
          rw [← ε3]
          have h3 := wt_fr_sf ε3
          have ej := wt_i1 (c := wt_gf r.2 108 54) (by omega)
          have ej1 := wt_i1 (c := p.1) (by have := wt_bd (wt_ga r.2 287 (Int32.toNatClampNeg t.1)); omega)
          have ep1 : Int32.toNatClampNeg (p.1 + (1 : Int32)) = Int32.toNatClampNeg p.1 + 1 := by have := wt_tnI (x := p.1 + (1 : Int32)) (by omega); omega
          have A41 : ∀ j, wt_ga q12 41 j = wt_ga q11 41 j := d2.2 41 (by decide)
          have A42 : ∀ j, wt_ga q11 42 j = wt_ga p.2 42 j := d1.2 42 (by decide)
          have B124 : ∀ j, wt_ga z3 124 j = wt_ga z1 124 j := fun j => by rw [h3.2 124 (fun h => h)]; exact h2.2 124 (by decide) j
          have B288 : ∀ j, wt_ga z3 288 j = wt_ga z2 288 j := h3.2 288 (fun h => h)
          have C288 : ∀ j, wt_ga z1 288 j = wt_ga r.2 288 j := h1.2 288 (by decide)
          have v288 : wt_ga z3 288 K = y6.1 := by rw [B288]; exact wt_v_sa ε2
          have o288 : ∀ k, k < K → wt_ga z3 288 k = wt_ga r.2 288 k := fun k hk => by rw [B288, wt_w_sa ε2 k (by omega), C288]
          have v124 : wt_ga z3 124 (13 * Int32.toNatClampNeg t.1 + i1') = x3 := by rw [B124]; exact wt_v_sa ε1
          have o124 : ∀ j, j ≠ 13 * Int32.toNatClampNeg t.1 + i1' → wt_ga z3 124 j = wt_ga r.2 124 j := fun j hj => by rw [B124]; exact wt_w_sa ε1 j hj
          have v41 : wt_ga q12 41 (12 * Int32.toNatClampNeg t.1 + i1') = x3 := by rw [A41]; exact wt_v_sa δ1
          have o41 : ∀ j, j ≠ 12 * Int32.toNatClampNeg t.1 + i1' → wt_ga q12 41 j = wt_ga p.2 41 j := fun j hj => by rw [A41]; exact wt_w_sa δ1 j hj
          have v42 : wt_ga q12 42 (12 * Int32.toNatClampNeg t.1 + i1') = p.1 := wt_v_sa δ2
          have o42 : ∀ j, j ≠ 12 * Int32.toNatClampNeg t.1 + i1' → wt_ga q12 42 j = wt_ga p.2 42 j := fun j hj => by rw [wt_w_sa δ2 j hj]; exact A42 j
          have ctE : ∀ (lx : Int) (k : Nat), k ≤ K → wt_ct (fun k' => (wt_ga z3 288 k').toInt / 13) lx k = wt_ct (fun k' => (wt_ga r.2 288 k').toInt / 13) lx k := fun lx k hk => wt_ct_congr k (fun k' hk' => by show (wt_ga z3 288 k').toInt / 13 = (wt_ga r.2 288 k').toInt / 13; rw [o288 k' (by omega)])
          -- the new piece lay free, and no piece of the list is it
          have fresh : ∀ l' i' : Nat, l' < 26 → (i' : Int) < (wt_ga z0 111 l').toInt → (wt_ga r.2 124 (13 * l' + i')).toInt = (g : Int) → ¬ (l' = Int32.toNatClampNeg t.1 ∧ i' = i1') := fun l' i' _ _ ho h => by
            rw [h.1, h.2] at ho
            omega
          have inj : ∀ l' i' : Nat, l' < 26 → (i' : Int) < (wt_ga z0 111 l').toInt → 13 * l' + i' = 13 * Int32.toNatClampNeg t.1 + i1' ∨ 12 * l' + i' = 12 * Int32.toNatClampNeg t.1 + i1' → l' = Int32.toNatClampNeg t.1 ∧ i' = i1' := fun l' i' hl hi h => by
            have b := (sk l' hl).2.1.2
            rw [(sk l' hl).1] at b
            omega
          have m12 : m ≤ 12 := by omega
          refine hK2 _ _ ⟨rfl, by show 0 ≤ (p.1 + (1 : Int32)).toInt; omega, K + 1, ⟨(fs.sa δ1 (Or.inl rfl)).sa δ2 (Or.inr rfl), ((fz.sa ε1 (Or.inl rfl)).sa ε2 (Or.inr rfl)).sf ε3 ⟨rfl, rfl⟩⟩, ⟨?_, by omega⟩, fun l' i' hl hi => ?_, fun l' i' hl hi hj => ?_, fun k hk => ?_, fun l' i' hl hi ho => ?_, ?_, fun l'' hl'' => ?_⟩
          · show (wt_gf z3 108 54).toInt = _
            rw [wt_v_sf ε3]; omega
          · show wt_ga q12 41 (12 * l' + i') = wt_ga z3 124 (13 * l' + i') ∧ (wt_ga z3 124 (13 * l' + i') = wt_ga z0 124 (13 * l' + i') ∨ ((wt_ga z0 124 (13 * l' + i')).toInt = -1 ∧ (wt_ga z3 124 (13 * l' + i')).toInt = (g : Int))) ∧ ((wt_ga z3 124 (13 * l' + i')).toInt ≠ (g : Int) → wt_ga q12 42 (12 * l' + i') = wt_ga s0 42 (12 * l' + i'))
            obtain ⟨c1, c2, c3⟩ := s3 l' i' hl hi
            by_cases hq : l' = Int32.toNatClampNeg t.1 ∧ i' = i1'
            · rw [hq.1, hq.2, v41, v124]
              rw [hq.1, hq.2] at c2
              refine ⟨rfl, Or.inr ⟨?_, hg⟩, fun h => absurd hg h⟩
              rcases c2 with c2 | c2
              · rw [← c2]; exact b4
              · exact c2.1
            · have n1 : 12 * l' + i' ≠ 12 * Int32.toNatClampNeg t.1 + i1' := fun h => hq (inj l' i' hl hi (Or.inr h))
              have n2 : 13 * l' + i' ≠ 13 * Int32.toNatClampNeg t.1 + i1' := fun h => hq (inj l' i' hl hi (Or.inl h))
              rw [o41 _ n1, o124 _ n2, o42 _ n1]
              exact ⟨c1, c2, c3⟩
          · show wt_ga q12 41 (12 * l' + i') = wt_ga s0 41 (12 * l' + i')
            rw [o41 _ (fun h => by
              by_cases hq : l' = Int32.toNatClampNeg t.1
              · rw [hq] at hj h
                omega
              · omega)]
            exact s4 l' i' hl hi hj
          · by_cases hq : k = K
            · refine ⟨Int32.toNatClampNeg t.1, i1', by omega, by omega, by rw [hq]; show (wt_ga z3 288 K).toInt = _; rw [v288]; exact b3, by show (wt_ga z3 124 _).toInt = _; rw [v124]; exact hg, ?_⟩
              show (wt_ga q12 42 _).toInt = wt_ct (fun k' => (wt_ga z3 288 k').toInt / 13) _ k
              rw [v42, hq, ctE _ _ (Nat.le_refl _), s7]
              omega
            · obtain ⟨l', i', u1, u2, u3, u4, u5⟩ := s5 k (by omega)
              have hne : ¬ (l' = Int32.toNatClampNeg t.1 ∧ i' = i1') := fresh l' i' u1 u2 u4
              have n1 : 12 * l' + i' ≠ 12 * Int32.toNatClampNeg t.1 + i1' := fun h => hne (inj l' i' u1 u2 (Or.inr h))
              have n2 : 13 * l' + i' ≠ 13 * Int32.toNatClampNeg t.1 + i1' := fun h => hne (inj l' i' u1 u2 (Or.inl h))
              refine ⟨l', i', u1, u2, ?_, ?_, ?_⟩
              · show (wt_ga z3 288 k).toInt = _
                rw [o288 k (by omega)]; exact u3
              · show (wt_ga z3 124 (13 * l' + i')).toInt = _
                rw [o124 _ n2]; exact u4
              · show (wt_ga q12 42 (12 * l' + i')).toInt = wt_ct (fun k' => (wt_ga z3 288 k').toInt / 13) _ k
                rw [o42 _ n1, ctE _ _ (by omega)]; exact u5
          · have ho' : (wt_ga z3 124 (13 * l' + i')).toInt = (g : Int) := ho
            by_cases hq : l' = Int32.toNatClampNeg t.1 ∧ i' = i1'
            · refine ⟨K, by omega, ?_⟩
              show (wt_ga z3 288 K).toInt = _
              rw [v288, hq.1, hq.2]; exact b3
            · have n2 : 13 * l' + i' ≠ 13 * Int32.toNatClampNeg t.1 + i1' := fun h => hq (inj l' i' hl hi (Or.inl h))
              rw [o124 _ n2] at ho'
              obtain ⟨k, w1, w2⟩ := s6 l' i' hl hi ho'
              refine ⟨k, by omega, ?_⟩
              show (wt_ga z3 288 k).toInt = _
              rw [o288 k w1]; exact w2
          · show wt_ct (fun k' => (wt_ga z3 288 k').toInt / 13) _ (K + 1) = ((Int32.toNatClampNeg (p.1 + (1 : Int32)) : Nat) : Int)
            rw [wt_ct_s, ctE _ _ (Nat.le_refl _), s7, v288, b3, if_pos (by omega), ep1]
            omega
          · show wt_ct (fun k' => (wt_ga z3 288 k').toInt / 13) _ (K + 1) = 0
            rw [wt_ct_s, ctE _ _ (Nat.le_refl _), s8 l'' hl'', v288, b3, if_neg (by omega)]
            rfl
