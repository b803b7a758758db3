/-! tools for what follows -/
theorem wt_fr.sf {F : Nat → Nat → Prop} {A : Nat → Prop} {σ s s' : wt_St} {i k : Nat} {v : Int32} (h : wt_fr F A σ s) (ε : s' = wt_sf s i k v) (hF : F i k) : wt_fr F A σ s' := wt_fr.tr h (wt_fr_sf ε) (fun i' k' z => by obtain ⟨z1, z2⟩ := z; rw [z1, z2]; exact hF) (fun _ z => z.elim)
theorem wt_fr.sa {F : Nat → Nat → Prop} {A : Nat → Prop} {σ s s' : wt_St} {i j : Nat} {v : Int32} (h : wt_fr F A σ s) (ε : s' = wt_sa s i j v) (hA : A i) : wt_fr F A σ s' := wt_fr.tr h (wt_fr_sa ε) (fun _ _ z => z.elim) (fun i' z => by have z' : i' = i := z; rw [z']; exact hA)
/-- x is the first below N of which P holds, or none such -/
def wt_fst (N : Nat) (P : Nat → Prop) (x : Int32) : Prop := (∃ w : Nat, w < N ∧ x.toInt = (w : Int) ∧ P w ∧ ∀ v, v < w → ¬ P v) ∨ (x = -1 ∧ ∀ v, v < N → ¬ P v)
theorem wt_fst_u {N : Nat} {P P' : Nat → Prop} {x y : Int32} (h : wt_fst N P x) (h' : wt_fst N P' y) (e : ∀ w, w < N → (P w ↔ P' w)) : x = y := by
  rcases h with ⟨w, a1, a2, a3, a4⟩ | ⟨a1, a2⟩
  · rcases h' with ⟨v, b1, b2, b3, b4⟩ | ⟨b1, b2⟩
    · rcases Nat.lt_trichotomy w v with c | c | c
      · exact absurd ((e w a1).mp a3) (b4 w c)
      · subst c
        exact wt_eqI (a2.trans b2.symm)
      · exact absurd ((e v b1).mpr b3) (a4 v c)
    · exact absurd ((e w a1).mp a3) (b2 w a1)
  · rcases h' with ⟨v, b1, b2, b3, b4⟩ | ⟨b1, b2⟩
    · exact absurd ((e v b1).mpr b3) (a2 v b1)
    · rw [a1, b1]
theorem wt_fst_no {N : Nat} {P : Nat → Prop} {x : Int32} (h : wt_fst N P x) (hx : ¬ x = -1) : ∃ w : Nat, w < N ∧ x.toInt = (w : Int) ∧ P w := by
  rcases h with ⟨w, a1, a2, a3, -⟩ | ⟨a1, -⟩
  · exact ⟨w, a1, a2, a3⟩
  · exact absurd a1 hx
/-! words: how one is found, by its letters -/
theorem wh_letterAt (n : Nat) (hn : 4294967297 < n) {t0 w k : Nat} {x1 x2 : Int32} {σ : wt_St} (hl : wt_ln (t0 + 1) = 540) (hw : x1.toInt = (w : Int)) (h6 : w < 60) (h2 : x2.toInt = (k : Int)) (hk : k < 9) : wt_H (wp_tg_letterAt n t0 x1 x2 σ) (fun q => q = (wt_ga σ (t0 + 1) (9 * w + k), σ)) := by
  have k9 : (9 : Int32).toInt = 9 := by decide
  have em := wt_mulR (x := x1) k9 (by omega) (by omega)
  have ea := wt_addE (x := x1 * (9 : Int32)) (y := x2) (by omega) (by omega)
  unfold wp_tg_letterAt
  refine wt_H_bh (wh_look n hn (k := 9 * w + k) (by omega) (by omega)) (fun q hq => ?_)
  subst hq
  exact wt_H_some rfl
theorem wh_isSpelled (n : Nat) (hn : 4294967297 < n) {t0 a2 w m : Nat} {x1 x3 : Int32} {σ : wt_St} (hl : wt_ln (t0 + 1) = 540) (ha : wt_ln a2 = 9) (hw : x1.toInt = (w : Int)) (h6 : w < 60) (h3 : x3.toInt = (m : Int)) (hm : m ≤ 9) : wt_H (wp_tg_isSpelled n t0 a2 x1 x3 σ) (fun q => q.2 = σ ∧ ((q.1 = 1 ∧ ∀ k, k < m → wt_ga σ (t0 + 1) (9 * w + k) = wt_ga σ a2 k) ∨ (q.1 = 0 ∧ ¬ ∀ k, k < m → wt_ga σ (t0 + 1) (9 * w + k) = wt_ga σ a2 k))) := by
  have k0 : (0 : Int32).toInt = 0 := by decide
  unfold wp_tg_isSpelled
  refine wt_H_it (fun s : Int32 × wt_St => s.2 = σ ∧ 0 ≤ s.1.toInt ∧ ∀ k : Nat, (k : Int) < s.1.toInt → wt_ga σ (t0 + 1) (9 * w + k) = wt_ga σ a2 k) (fun K s I hK => ?_) n _ ⟨rfl, by show 0 ≤ ((0 : Int32)).toInt; omega, fun k hk => absurd (show (k : Int) < ((0 : Int32)).toInt from hk) (by omega)⟩
  obtain ⟨i0, i1, i2⟩ := I
  have es := wt_tnI i1
  unfold wp_tg_isSpelled_B3
  rw [i0]
  refine wt_H_if (fun c => ?_) (fun c => ?_)
  · have c' := wt_cle c
    exact wt_H_some ⟨rfl, Or.inl ⟨rfl, fun k hk => i2 k (by omega)⟩⟩
  · have c' := wt_ncle c
    have ei := wt_i1 (c := s.1) (by omega)
    refine wt_H_bh (wh_letterAt n hn hl hw h6 (k := Int32.toNatClampNeg s.1) (by omega) (by omega)) (fun q hq => ?_)
    subst hq
    dsimp only
    refine wt_H_bh (wh_look n hn (k := Int32.toNatClampNeg s.1) (by omega) (by omega)) (fun q hq => ?_)
    subst hq
    dsimp only
    refine wt_H_if (fun d => ?_) (fun d => ?_)
    · refine hK _ ⟨rfl, by show 0 ≤ (s.1 + (1 : Int32)).toInt; omega, fun k hk => ?_⟩
      have hk' : (k : Int) < (s.1 + (1 : Int32)).toInt := hk
      by_cases hc : k = Int32.toNatClampNeg s.1
      · rw [hc]; exact d
      · exact i2 k (by omega)
    · exact wt_H_some ⟨rfl, Or.inr ⟨rfl, fun h => d (h _ (by omega))⟩⟩
def wt_sp (σ : wt_St) (t0 a1 : Nat) (x2 : Int32) (m w : Nat) : Prop := wt_ga σ (t0 + 2) w = x2 ∧ ∀ k, k < m → wt_ga σ (t0 + 1) (9 * w + k) = wt_ga σ a1 k
theorem wh_find (n : Nat) (hn : 4294967297 < n) {t0 a1 N m : Nat} {x2 : Int32} {σ : wt_St} (hl : wt_ln (t0 + 1) = 540) (hl2 : wt_ln (t0 + 2) = 60) (ha : wt_ln a1 = 9) (hN : (wt_gf σ t0 6).toInt = (N : Int)) (hN6 : N ≤ 60) (h2 : x2.toInt = (m : Int)) (hm : m ≤ 9) : wt_H (wp_tg_find n t0 a1 x2 σ) (fun q => q.2 = σ ∧ wt_fst N (wt_sp σ t0 a1 x2 m) q.1) := by
  have k0 : (0 : Int32).toInt = 0 := by decide
  unfold wp_tg_find
  refine wt_H_it (fun s : Int32 × wt_St => s.2 = σ ∧ 0 ≤ s.1.toInt ∧ ∀ w : Nat, (w : Int) < s.1.toInt → ¬ wt_sp σ t0 a1 x2 m w) (fun K s I hK => ?_) n _ ⟨rfl, by show 0 ≤ ((0 : Int32)).toInt; omega, fun k hk => absurd (show (k : Int) < ((0 : Int32)).toInt from hk) (by omega)⟩
  obtain ⟨i0, i1, i2⟩ := I
  have es := wt_tnI i1
  unfold wp_tg_find_B2
  rw [i0]
  refine wt_H_if (fun c => ?_) (fun c => ?_)
  · have c' := wt_cle c
    exact wt_H_some ⟨rfl, Or.inr ⟨rfl, fun v hv => i2 v (by omega)⟩⟩
  · have c' := wt_ncle c
    have ei := wt_i1 (c := s.1) (by omega)
    have NX : ¬ wt_sp σ t0 a1 x2 m (Int32.toNatClampNeg s.1) → wt_H (wp_tg_find_B34 n t0 a1 x2 s.1 K σ) (fun q => q.2 = σ ∧ wt_fst N (wt_sp σ t0 a1 x2 m) q.1) := fun hx => by
      unfold wp_tg_find_B34
      refine hK _ ⟨rfl, by show 0 ≤ (s.1 + (1 : Int32)).toInt; omega, fun w hw => ?_⟩
      have hw' : (w : Int) < (s.1 + (1 : Int32)).toInt := hw
      by_cases hc : w = Int32.toNatClampNeg s.1
      · rw [hc]; exact hx
      · exact i2 w (by omega)
    refine wt_H_bh (wh_look n hn (k := Int32.toNatClampNeg s.1) (by omega) (by omega)) (fun q hq => ?_)
    subst hq
    dsimp only
    refine wt_H_if (fun d => ?_) (fun d => NX (fun h => d h.1))
    refine wt_H_bh (wh_isSpelled n hn hl ha (w := Int32.toNatClampNeg s.1) (by omega) (by omega) h2 hm) (fun q4 h4 => ?_)
    obtain ⟨e4, h4⟩ := h4
    rw [e4]
    rcases h4 with ⟨z, h4⟩ | ⟨z, h4⟩
    · rw [if_neg (by rw [z]; decide)]
      exact wt_H_some ⟨rfl, Or.inl ⟨Int32.toNatClampNeg s.1, by omega, by (try dsimp only); omega, ⟨d, h4⟩, fun v hv => i2 v (by omega)⟩⟩
    · rw [if_pos z]
      exact NX (fun h => h4 h.2)
def wt_so (β : Nat → Int32) (σ : wt_St) (a3 L : Nat) (x1 : Int32) (m j w : Nat) : Prop := wt_ga σ a3 w = x1 ∧ ∀ k, k < m → wt_ga σ (L + w) k = β (j + k) - (97 : Int32)
theorem wh_wordOf_131 (n : Nat) {β : Nat → Int32} {e j a3 N m : Nat} {x1 x4 : Int32} {σ : wt_St} (rv : wt_rv β e j σ) (h1 : x1.toInt = (m : Int)) (hm : m ≤ 9) (hje : j + m ≤ e) (h4 : x4.toInt = (N : Int)) (hN : N ≤ 60) : wt_H (wp_md_wordOf_131 n a3 x1 x4 σ) (fun q => q.2 = σ ∧ wt_fst N (wt_so β σ a3 132 x1 m j) q.1) := by
  have k0 : (0 : Int32).toInt = 0 := by decide
  have t3 := rv.2.2.1
  have t5 := rv.2.2.2
  unfold wp_md_wordOf_131
  refine wt_H_it (fun s : Int32 × wt_St => s.2 = σ ∧ 0 ≤ s.1.toInt ∧ ∀ w : Nat, (w : Int) < s.1.toInt → ¬ wt_so β σ a3 132 x1 m j w) (fun K s I hK => ?_) n _ ⟨rfl, by show 0 ≤ ((0 : Int32)).toInt; omega, fun k hk => absurd (show (k : Int) < ((0 : Int32)).toInt from hk) (by omega)⟩
  obtain ⟨i0, i1, i2⟩ := I
  have es := wt_tnI i1
  unfold wp_md_wordOf_131_B3
  rw [i0]
  refine wt_H_if (fun c => ?_) (fun c => ?_)
  · have c' := wt_cle c
    exact wt_H_some ⟨rfl, Or.inr ⟨rfl, fun v hv => i2 v (by omega)⟩⟩
  · have c' := wt_ncle c
    have ei := wt_i1 (c := s.1) (by omega)
    refine wt_H_gd (fun g => ?_)
    have B : ∀ y : Int32, (y = 1 ∧ wt_ga σ a3 (Int32.toNatClampNeg s.1) = x1) ∨ (y = 0 ∧ ¬ wt_ga σ a3 (Int32.toNatClampNeg s.1) = x1) → wt_H (wp_md_wordOf_131_B23 n a3 x1 x4 s.1 K y σ) (fun q => q.2 = σ ∧ wt_fst N (wt_so β σ a3 132 x1 m j) q.1) := by
      intro y hy
      unfold wp_md_wordOf_131_B23
      refine wt_H_it (fun t : Int32 × Int32 × wt_St => t.2.2 = σ ∧ 0 ≤ t.2.1.toInt ∧ ((t.1 = 1 ∧ wt_ga σ a3 (Int32.toNatClampNeg s.1) = x1 ∧ ∀ k : Nat, (k : Int) < t.2.1.toInt → wt_ga σ (132 + Int32.toNatClampNeg s.1) k = β (j + k) - (97 : Int32)) ∨ (t.1 = 0 ∧ ¬ wt_so β σ a3 132 x1 m j (Int32.toNatClampNeg s.1)))) (fun K2 t J hK2 => ?_) n _ ⟨rfl, by show 0 ≤ ((0 : Int32)).toInt; omega, ?_⟩
      rotate_left
      · rcases hy with ⟨a, b⟩ | ⟨a, b⟩
        · exact Or.inl ⟨a, b, fun k hk => absurd (show (k : Int) < ((0 : Int32)).toInt from hk) (by omega)⟩
        · exact Or.inr ⟨a, fun h => b h.1⟩
      obtain ⟨j0, j1, j2⟩ := J
      have et := wt_tnI j1
      have E : (t.1 = 1 ∧ wt_so β σ a3 132 x1 m j (Int32.toNatClampNeg s.1)) ∨ (t.1 = 0 ∧ ¬ wt_so β σ a3 132 x1 m j (Int32.toNatClampNeg s.1)) → wt_H (wp_md_wordOf_131_B76 n a3 x1 x4 s.1 t.1 K σ) (fun q => q.2 = σ ∧ wt_fst N (wt_so β σ a3 132 x1 m j) q.1) := by
        intro hE
        unfold wp_md_wordOf_131_B76
        rcases hE with ⟨a, b⟩ | ⟨a, b⟩
        · rw [if_neg (by rw [a]; decide)]
          exact wt_H_some ⟨rfl, Or.inl ⟨Int32.toNatClampNeg s.1, by omega, by (try dsimp only); omega, b, fun v hv => i2 v (by omega)⟩⟩
        · rw [if_pos a]
          refine hK _ ⟨rfl, by show 0 ≤ (s.1 + (1 : Int32)).toInt; omega, fun w hw => ?_⟩
          have hw' : (w : Int) < (s.1 + (1 : Int32)).toInt := hw
          by_cases hc : w = Int32.toNatClampNeg s.1
          · rw [hc]; exact b
          · exact i2 w (by omega)
      unfold wp_md_wordOf_131_B28
      rw [j0]
      refine wt_H_if (fun d => ?_) (fun d => ?_)
      · have d' := wt_cle d
        exact E (j2.imp (fun h => ⟨h.1, h.2.1, fun k hk => h.2.2 k (by omega)⟩) (fun h => h))
      · have d' := wt_ncle d
        refine wt_H_if (fun f => ?_) (fun f => ?_)
        · rcases j2 with ⟨a, -⟩ | ⟨a, b⟩
          · exact absurd (a.symm.trans f) (by decide)
          · exact E (Or.inr ⟨a, b⟩)
        · rcases j2 with ⟨a, b, p⟩ | ⟨a, b⟩
          · refine wt_H_gd (fun _ => ?_)
            refine wt_H_gd (fun _ => ?_)
            have ek := wt_addE (x := wt_gf σ 108 4) (y := t.2.1) (by omega) (by omega)
            have ej := wt_i1 (c := t.2.1) (by omega)
            refine wt_H_bh (wh_byteAt n rv (j := j + Int32.toNatClampNeg t.2.1) (by omega)) (fun q hq => ?_)
            rcases hq with ⟨hq, -⟩ | ⟨-, hq⟩
            · omega
            · subst hq
              dsimp only
              refine wt_H_if (fun f2 => ?_) (fun f2 => ?_)
              · unfold wp_md_wordOf_131_B68
                refine hK2 _ ⟨rfl, by show 0 ≤ (t.2.1 + (1 : Int32)).toInt; omega, Or.inl ⟨rfl, b, fun k hk => ?_⟩⟩
                have hk' : (k : Int) < (t.2.1 + (1 : Int32)).toInt := hk
                by_cases hc : k = Int32.toNatClampNeg t.2.1
                · rw [hc]; exact f2
                · exact p k (by omega)
              · unfold wp_md_wordOf_131_B68
                exact hK2 _ ⟨rfl, by show 0 ≤ (t.2.1 + (1 : Int32)).toInt; omega, Or.inr ⟨rfl, fun h => f2 (h.2 _ (by omega))⟩⟩
          · exact absurd a f
    exact wt_H_if (fun d => B _ (Or.inl ⟨rfl, d⟩)) (fun d => B _ (Or.inr ⟨rfl, d⟩))
theorem wh_wordOf_192 (n : Nat) {β : Nat → Int32} {e j a3 N m : Nat} {x1 x4 : Int32} {σ : wt_St} (rv : wt_rv β e j σ) (h1 : x1.toInt = (m : Int)) (hm : m ≤ 9) (hje : j + m ≤ e) (h4 : x4.toInt = (N : Int)) (hN : N ≤ 60) : wt_H (wp_md_wordOf_192 n a3 x1 x4 σ) (fun q => q.2 = σ ∧ wt_fst N (wt_so β σ a3 193 x1 m j) q.1) := by
  have k0 : (0 : Int32).toInt = 0 := by decide
  have t3 := rv.2.2.1
  have t5 := rv.2.2.2
  unfold wp_md_wordOf_192
  refine wt_H_it (fun s : Int32 × wt_St => s.2 = σ ∧ 0 ≤ s.1.toInt ∧ ∀ w : Nat, (w : Int) < s.1.toInt → ¬ wt_so β σ a3 193 x1 m j w) (fun K s I hK => ?_) n _ ⟨rfl, by show 0 ≤ ((0 : Int32)).toInt; omega, fun k hk => absurd (show (k : Int) < ((0 : Int32)).toInt from hk) (by omega)⟩
  obtain ⟨i0, i1, i2⟩ := I
  have es := wt_tnI i1
  unfold wp_md_wordOf_192_B3
  rw [i0]
  refine wt_H_if (fun c => ?_) (fun c => ?_)
  · have c' := wt_cle c
    exact wt_H_some ⟨rfl, Or.inr ⟨rfl, fun v hv => i2 v (by omega)⟩⟩
  · have c' := wt_ncle c
    have ei := wt_i1 (c := s.1) (by omega)
    refine wt_H_gd (fun g => ?_)
    have B : ∀ y : Int32, (y = 1 ∧ wt_ga σ a3 (Int32.toNatClampNeg s.1) = x1) ∨ (y = 0 ∧ ¬ wt_ga σ a3 (Int32.toNatClampNeg s.1) = x1) → wt_H (wp_md_wordOf_192_B23 n a3 x1 x4 s.1 K y σ) (fun q => q.2 = σ ∧ wt_fst N (wt_so β σ a3 193 x1 m j) q.1) := by
      intro y hy
      unfold wp_md_wordOf_192_B23
      refine wt_H_it (fun t : Int32 × Int32 × wt_St => t.2.2 = σ ∧ 0 ≤ t.2.1.toInt ∧ ((t.1 = 1 ∧ wt_ga σ a3 (Int32.toNatClampNeg s.1) = x1 ∧ ∀ k : Nat, (k : Int) < t.2.1.toInt → wt_ga σ (193 + Int32.toNatClampNeg s.1) k = β (j + k) - (97 : Int32)) ∨ (t.1 = 0 ∧ ¬ wt_so β σ a3 193 x1 m j (Int32.toNatClampNeg s.1)))) (fun K2 t J hK2 => ?_) n _ ⟨rfl, by show 0 ≤ ((0 : Int32)).toInt; omega, ?_⟩
      rotate_left
      · rcases hy with ⟨a, b⟩ | ⟨a, b⟩
        · exact Or.inl ⟨a, b, fun k hk => absurd (show (k : Int) < ((0 : Int32)).toInt from hk) (by omega)⟩
        · exact Or.inr ⟨a, fun h => b h.1⟩
      obtain ⟨j0, j1, j2⟩ := J
      have et := wt_tnI j1
      have E : (t.1 = 1 ∧ wt_so β σ a3 193 x1 m j (Int32.toNatClampNeg s.1)) ∨ (t.1 = 0 ∧ ¬ wt_so β σ a3 193 x1 m j (Int32.toNatClampNeg s.1)) → wt_H (wp_md_wordOf_192_B76 n a3 x1 x4 s.1 t.1 K σ) (fun q => q.2 = σ ∧ wt_fst N (wt_so β σ a3 193 x1 m j) q.1) := by
        intro hE
        unfold wp_md_wordOf_192_B76
        rcases hE with ⟨a, b⟩ | ⟨a, b⟩
        · rw [if_neg (by rw [a]; decide)]
          exact wt_H_some ⟨rfl, Or.inl ⟨Int32.toNatClampNeg s.1, by omega, by (try dsimp only); omega, b, fun v hv => i2 v (by omega)⟩⟩
        · rw [if_pos a]
          refine hK _ ⟨rfl, by show 0 ≤ (s.1 + (1 : Int32)).toInt; omega, fun w hw => ?_⟩
          have hw' : (w : Int) < (s.1 + (1 : Int32)).toInt := hw
          by_cases hc : w = Int32.toNatClampNeg s.1
          · rw [hc]; exact b
          · exact i2 w (by omega)
      unfold wp_md_wordOf_192_B28
      rw [j0]
      refine wt_H_if (fun d => ?_) (fun d => ?_)
      · have d' := wt_cle d
        exact E (j2.imp (fun h => ⟨h.1, h.2.1, fun k hk => h.2.2 k (by omega)⟩) (fun h => h))
      · have d' := wt_ncle d
        refine wt_H_if (fun f => ?_) (fun f => ?_)
        · rcases j2 with ⟨a, -⟩ | ⟨a, b⟩
          · exact absurd (a.symm.trans f) (by decide)
          · exact E (Or.inr ⟨a, b⟩)
        · rcases j2 with ⟨a, b, p⟩ | ⟨a, b⟩
          · refine wt_H_gd (fun _ => ?_)
            refine wt_H_gd (fun _ => ?_)
            have ek := wt_addE (x := wt_gf σ 108 4) (y := t.2.1) (by omega) (by omega)
            have ej := wt_i1 (c := t.2.1) (by omega)
            refine wt_H_bh (wh_byteAt n rv (j := j + Int32.toNatClampNeg t.2.1) (by omega)) (fun q hq => ?_)
            rcases hq with ⟨hq, -⟩ | ⟨-, hq⟩
            · omega
            · subst hq
              dsimp only
              refine wt_H_if (fun f2 => ?_) (fun f2 => ?_)
              · unfold wp_md_wordOf_192_B68
                refine hK2 _ ⟨rfl, by show 0 ≤ (t.2.1 + (1 : Int32)).toInt; omega, Or.inl ⟨rfl, b, fun k hk => ?_⟩⟩
                have hk' : (k : Int) < (t.2.1 + (1 : Int32)).toInt := hk
                by_cases hc : k = Int32.toNatClampNeg t.2.1
                · rw [hc]; exact f2
                · exact p k (by omega)
              · unfold wp_md_wordOf_192_B68
                exact hK2 _ ⟨rfl, by show 0 ≤ (t.2.1 + (1 : Int32)).toInt; omega, Or.inr ⟨rfl, fun h => f2 (h.2 _ (by omega))⟩⟩
          · exact absurd a f
    exact wt_H_if (fun d => B _ (Or.inl ⟨rfl, d⟩)) (fun d => B _ (Or.inr ⟨rfl, d⟩))
