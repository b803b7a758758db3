/-! the pieces in the case: how many of a letter are good for so many copies -/
def wu_rf (s : wt_St) (a : Nat) (c : Int) (j : Nat) : Int := if (wt_ga s 41 j).toInt = -1 ∧ c ≤ (wt_ga s a j).toInt then 1 else 0
def wu_rd (s : wt_St) (a : Nat) (c : Int) (l : Nat) : Int := wt_sum (fun i => wu_rf s a c (12 * l + i)) (Int32.toNatClampNeg (wt_ga s 5 l))
/-- pieces of the class beside those of the reference: what a row has left, where they lie -/
def wu_SK (a : Nat) (s z : wt_St) : Prop := ∀ l, l < 26 → wt_ga s 5 l = wt_ga z 111 l ∧ (0 ≤ (wt_ga s 5 l).toInt ∧ (wt_ga s 5 l).toInt ≤ 12) ∧ ∀ i : Nat, (i : Int) < (wt_ga s 5 l).toInt → wt_ga s a (12 * l + i) = wt_ga z 121 (13 * l + i) ∧ wt_ga s 41 (12 * l + i) = wt_ga z 124 (13 * l + i)
theorem wu_SK_of {s z : wt_St} (lc : wu_LC s z) (sc : wu_SC s z) : wu_SK 40 s z := fun l hl => by
  obtain ⟨a1, a2, a3⟩ := lc.1 l hl
  refine ⟨a1, ⟨a2, a3⟩, fun i hi => ?_⟩
  rw [a1] at hi
  obtain ⟨b1, b2, -⟩ := (sc.2.2.1 l hl).1 i hi
  exact ⟨b1, b2⟩
theorem wu_SK_fr {a : Nat} {s s' z z' : wt_St} {F F' : Nat → Nat → Prop} {A A' : Nat → Prop} (h : wu_SK a s z) (f : wt_fr F A s s') (g : wt_fr F' A' z z') (h1 : ¬ A 5 ∧ ¬ A a ∧ ¬ A 41) (h2 : ¬ A' 111 ∧ ¬ A' 121 ∧ ¬ A' 124) : wu_SK a s' z' := fun l hl => by
  rw [f.2 5 h1.1, g.2 111 h2.1]
  obtain ⟨a1, a2, a3⟩ := h l hl
  refine ⟨a1, a2, fun i hi => ?_⟩
  rw [f.2 a h1.2.1, f.2 41 h1.2.2, g.2 121 h2.2.1, g.2 124 h2.2.2]
  exact a3 i hi
theorem wu_rd_go {a : Nat} {s z : wt_St} (h : wu_SK a s z) {l : Nat} (hl : l < 26) (c : Int) : wu_rd s a c l = wt_go z c l := by
  obtain ⟨a1, a2, a3⟩ := h l hl
  unfold wu_rd wt_go
  rw [← a1]
  have e := wt_tnI a2.1
  refine wt_sum_congr _ (fun i hi => ?_)
  obtain ⟨b1, b2⟩ := a3 i (by omega)
  show wu_rf s a c (12 * l + i) = wt_gf1 z c (13 * l + i)
  unfold wu_rf wt_gf1
  rw [b1, b2]
theorem wu_rd_bd {a : Nat} {s : wt_St} {l : Nat} (c : Int) (h12 : (wt_ga s 5 l).toInt ≤ 12) : 0 ≤ wu_rd s a c l ∧ wu_rd s a c l ≤ 12 := by
  have h := wt_sum_bd (f := fun i => wu_rf s a c (12 * l + i)) (c := 1) (Int32.toNatClampNeg (wt_ga s 5 l)) (fun i _ => by
    show 0 ≤ wu_rf s a c (12 * l + i) ∧ wu_rf s a c (12 * l + i) ≤ 1
    unfold wu_rf
    split <;> omega)
  have h2 := wt_tnle (b := 12) h12
  unfold wu_rd
  omega
theorem wh_pieces (n : Nat) (hn : 4294967297 < n) {l : Nat} {x : Int32} {s : wt_St} (hx : x.toInt = (l : Int)) (hl : l < 26) : wt_H (wp_sk_pieces n x s) (fun q => q = (wt_ga s 5 l, s)) := by
  unfold wp_sk_pieces
  refine wt_H_bh (wh_look n hn (k := l) hx (by rw [show wt_ln 5 = 26 from by decide]; exact hl)) (fun q hq => ?_)
  subst hq
  exact wt_H_some rfl
theorem wh_lies (n : Nat) (hn : 4294967297 < n) {j : Nat} {x : Int32} {s : wt_St} (hx : x.toInt = (j : Int)) (hj : j < 312) : wt_H (wp_sk_lies n x s) (fun q => q.2 = s ∧ ((q.1 = 1 ∧ (wt_ga s 41 j).toInt = -1) ∨ (q.1 = 0 ∧ (wt_ga s 41 j).toInt ≠ -1))) := by
  unfold wp_sk_lies
  refine wt_H_bh (wh_look n hn (k := j) hx (by rw [show wt_ln 41 = 312 from by decide]; exact hj)) (fun q hq => ?_)
  subst hq
  dsimp only
  refine wt_H_if (fun c => ?_) (fun c => ?_)
  · exact wt_H_some ⟨rfl, Or.inl ⟨rfl, (wt_ceq c).trans wt_lm1⟩⟩
  · have c' := wt_nceq c
    rw [wt_lm1] at c'
    exact wt_H_some ⟨rfl, Or.inr ⟨rfl, c'⟩⟩
theorem wt_piece {x1 i : Int32} {l : Nat} (hx : x1.toInt = (l : Int)) (hl : l < 26) (h0 : 0 ≤ i.toInt) (h1 : i.toInt < 13) : ((x1 * (12 : Int32)) + i).toInt = ((12 * l + Int32.toNatClampNeg i : Nat) : Int) := by
  have k12 : (12 : Int32).toInt = 12 := by decide
  have em := wt_mulR (x := x1) k12 (by omega) (by omega)
  have ea := wt_addE (x := x1 * (12 : Int32)) (y := i) (by omega) (by omega)
  have et := wt_tnI h0
  omega
theorem wh_ready (n : Nat) (hn : 4294967297 < n) {a l : Nat} {x1 x2 : Int32} {s : wt_St} (ha : wt_ln a = 312) (hx : x1.toInt = (l : Int)) (hl : l < 26) (h0 : 0 ≤ (wt_ga s 5 l).toInt) (h12 : (wt_ga s 5 l).toInt ≤ 12) : wt_H (wp_sk_ready n a x1 x2 s) (fun q => q.2 = s ∧ q.1.toInt = wu_rd s a x2.toInt l) := by
  have k0 : (0 : Int32).toInt = 0 := by decide
  have k1 : (1 : Int32).toInt = 1 := by decide
  unfold wp_sk_ready
  refine wt_H_it (fun t : Int32 × Int32 × wt_St => t.2.2 = s ∧ 0 ≤ t.2.1.toInt ∧ t.2.1.toInt ≤ (wt_ga s 5 l).toInt ∧ t.1.toInt = wt_sum (fun i => wu_rf s a x2.toInt (12 * l + i)) (Int32.toNatClampNeg t.2.1) ∧ 0 ≤ t.1.toInt ∧ t.1.toInt ≤ t.2.1.toInt) (fun K t I hK => ?_) n _ ⟨rfl, by show 0 ≤ ((0 : Int32)).toInt; omega, by show ((0 : Int32)).toInt ≤ _; omega, by show ((0 : Int32)).toInt = wt_sum _ (Int32.toNatClampNeg (0 : Int32)); rw [wt_tn0]; exact k0, by show 0 ≤ ((0 : Int32)).toInt; omega, by show ((0 : Int32)).toInt ≤ ((0 : Int32)).toInt; omega⟩
  obtain ⟨i0, i1, i2, i3, i4, i5⟩ := I
  have et := wt_tnI i1
  unfold wp_sk_ready_B6
  rw [i0]
  refine wt_H_bh (wh_pieces n hn hx hl) (fun q1 h1 => ?_)
  subst h1
  dsimp only
  refine wt_H_if (fun c => ?_) (fun c => ?_)
  · have c' := wt_cle c
    refine wt_H_some ⟨rfl, ?_⟩
    show t.1.toInt = _
    rw [i3]
    unfold wu_rd
    rw [show Int32.toNatClampNeg t.2.1 = Int32.toNatClampNeg (wt_ga s 5 l) by have := wt_tnI h0; omega]
  · have c' := wt_ncle c
    have ei := wt_i1 (c := t.2.1) (by omega)
    have ep := wt_piece hx hl i1 (by omega)
    have en : Int32.toNatClampNeg (t.2.1 + (1 : Int32)) = Int32.toNatClampNeg t.2.1 + 1 := by have := wt_tnI (x := t.2.1 + (1 : Int32)) (by omega); omega
    have B : ∀ y : Int32, y.toInt = wu_rf s a x2.toInt (12 * l + Int32.toNatClampNeg t.2.1) → wt_H (wp_sk_ready_B51 n a x1 x2 t.2.1 K t.1 y s) (fun q => q.2 = s ∧ q.1.toInt = wu_rd s a x2.toInt l) := by
      intro y hy
      have hy2 : 0 ≤ y.toInt ∧ y.toInt ≤ 1 := by
        rw [hy]
        unfold wu_rf
        split <;> omega
      have ea := wt_addE (x := t.1) (y := y) (by omega) (by omega)
      unfold wp_sk_ready_B51
      refine hK _ ⟨rfl, by show 0 ≤ (t.2.1 + (1 : Int32)).toInt; omega, by show (t.2.1 + (1 : Int32)).toInt ≤ _; omega, ?_, by show 0 ≤ (t.1 + y).toInt; omega, by show (t.1 + y).toInt ≤ (t.2.1 + (1 : Int32)).toInt; omega⟩
      show (t.1 + y).toInt = wt_sum _ (Int32.toNatClampNeg (t.2.1 + (1 : Int32)))
      rw [en]
      show _ = wt_sum _ (Int32.toNatClampNeg t.2.1) + wu_rf s a x2.toInt (12 * l + Int32.toNatClampNeg t.2.1)
      omega
    refine wt_H_bh (wh_lies n hn (j := 12 * l + Int32.toNatClampNeg t.2.1) (by omega) (by omega)) (fun q3 h3 => ?_)
    obtain ⟨e3, h3⟩ := h3
    rw [e3]
    unfold wp_sk_ready_B50
    rcases h3 with ⟨z, h3⟩ | ⟨z, h3⟩
    · rw [if_neg (by rw [z]; decide)]
      refine wt_H_bh (wh_look n hn (k := 12 * l + Int32.toNatClampNeg t.2.1) (by omega) (by omega)) (fun q5 h5 => ?_)
      subst h5
      dsimp only
      refine wt_H_if (fun d => B _ ?_) (fun d => B _ ?_)
      · have d' := wt_clt d
        unfold wu_rf
        rw [if_neg (by omega), k0]
      · have d' := wt_ncl d
        unfold wu_rf
        rw [if_pos ⟨h3, by omega⟩, k1]
    · rw [if_pos z]
      refine B _ ?_
      unfold wu_rf
      rw [if_neg (fun h => h3 h.1), k0]
theorem wh_lacking (n : Nat) (hn : 4294967297 < n) {a1 a3 : Nat} {x2 : Int32} {s : wt_St} (h1 : wt_ln a1 = 26) (h3 : wt_ln a3 = 312) (hm : ∀ l, l < 26 → 0 ≤ (wt_ga s 5 l).toInt ∧ (wt_ga s 5 l).toInt ≤ 12) : wt_H (wp_sk_lacking n a1 a3 x2 s) (fun q => q.2 = s ∧ wt_fst 26 (fun l => wu_rd s a3 x2.toInt l < (wt_ga s a1 l).toInt) q.1) := by
  have k0 : (0 : Int32).toInt = 0 := by decide
  have hl26 : (nI (wt_ln a1)).toInt = 26 := by rw [h1]; exact nI_toInt (by omega)
  unfold wp_sk_lacking
  refine wt_H_it (fun t : Int32 × wt_St => t.2 = s ∧ 0 ≤ t.1.toInt ∧ ∀ l : Nat, (l : Int) < t.1.toInt → ¬ wu_rd s a3 x2.toInt l < (wt_ga s a1 l).toInt) (fun K t I hK => ?_) n _ ⟨rfl, by show 0 ≤ ((0 : Int32)).toInt; omega, fun k hk => absurd (show (k : Int) < ((0 : Int32)).toInt from hk) (by omega)⟩
  obtain ⟨i0, i1, i2⟩ := I
  have et := wt_tnI i1
  unfold wp_sk_lacking_B3
  rw [i0]
  refine wt_H_if (fun c => ?_) (fun c => ?_)
  · have c' := wt_cle c
    exact wt_H_some ⟨rfl, Or.inr ⟨rfl, fun v hv => i2 v (by omega)⟩⟩
  · have c' := wt_ncle c
    have ei := wt_i1 (c := t.1) (by omega)
    refine wt_H_gd (fun _ => ?_)
    have m := hm (Int32.toNatClampNeg t.1) (by omega)
    have rb := wu_rd_bd (a := a3) x2.toInt m.2
    have NX : ¬ wu_rd s a3 x2.toInt (Int32.toNatClampNeg t.1) < (wt_ga s a1 (Int32.toNatClampNeg t.1)).toInt → wt_H (wp_sk_lacking_B35 n a1 a3 x2 t.1 K s) (fun q => q.2 = s ∧ wt_fst 26 (fun l => wu_rd s a3 x2.toInt l < (wt_ga s a1 l).toInt) q.1) := fun hx => by
      unfold wp_sk_lacking_B35
      refine hK _ ⟨rfl, by show 0 ≤ (t.1 + (1 : Int32)).toInt; omega, fun l hl => ?_⟩
      have hl' : (l : Int) < (t.1 + (1 : Int32)).toInt := hl
      by_cases hc : l = Int32.toNatClampNeg t.1
      · rw [hc]; exact hx
      · exact i2 l (by omega)
    refine wt_H_if (fun d => NX (by have := wt_cle d; omega)) (fun d => ?_)
    refine wt_H_bh (wh_ready n hn h3 (l := Int32.toNatClampNeg t.1) (by omega) (by omega) m.1 m.2) (fun q4 h4 => ?_)
    obtain ⟨e4, h4⟩ := h4
    rw [e4]
    refine wt_H_gd (fun _ => ?_)
    refine wt_H_if (fun f => NX (by have := wt_cle f; omega)) (fun f => ?_)
    have f' := wt_ncle f
    exact wt_H_some ⟨rfl, Or.inl ⟨Int32.toNatClampNeg t.1, by omega, by (try dsimp only); omega, by omega, fun v hv => i2 v (by omega)⟩⟩
theorem wh_lackingM (n : Nat) (hn : 4294967297 < n) {x1 : Int32} {z : wt_St} (r : wt_RI z) : wt_H (wp_md_lacking n x1 z) (fun q => q.2 = z ∧ wt_fst 26 (fun l => wt_go z x1.toInt l < (wt_ga z 287 l).toInt) q.1) := by
  have k0 : (0 : Int32).toInt = 0 := by decide
  have k26 : (26 : Int32).toInt = 26 := by decide
  unfold wp_md_lacking
  refine wt_H_it (fun t : Int32 × wt_St => t.2 = z ∧ 0 ≤ t.1.toInt ∧ ∀ l : Nat, (l : Int) < t.1.toInt → ¬ wt_go z x1.toInt l < (wt_ga z 287 l).toInt) (fun K t I hK => ?_) n _ ⟨rfl, by show 0 ≤ ((0 : Int32)).toInt; omega, fun k hk => absurd (show (k : Int) < ((0 : Int32)).toInt from hk) (by omega)⟩
  obtain ⟨i0, i1, i2⟩ := I
  have et := wt_tnI i1
  unfold wp_md_lacking_B2
  rw [i0]
  refine wt_H_if (fun c => ?_) (fun c => ?_)
  · have c' := wt_cle c
    exact wt_H_some ⟨rfl, Or.inr ⟨rfl, fun v hv => i2 v (by omega)⟩⟩
  · have c' := wt_ncle c
    have ei := wt_i1 (c := t.1) (by omega)
    refine wt_H_gd (fun _ => ?_)
    refine wt_H_bh (wq_md_goodForP n hn t.1 x1 z r i1 (by omega)).h (fun q hq => ?_)
    obtain ⟨e, hq⟩ := hq
    rw [e]
    refine wt_H_if (fun d => ?_) (fun d => ?_)
    · have d' := wt_cle d
      refine hK _ ⟨rfl, by show 0 ≤ (t.1 + (1 : Int32)).toInt; omega, fun l hl => ?_⟩
      have hl' : (l : Int) < (t.1 + (1 : Int32)).toInt := hl
      by_cases hc : l = Int32.toNatClampNeg t.1
      · rw [hc]; omega
      · exact i2 l (by omega)
    · have d' := wt_ncle d
      exact wt_H_some ⟨rfl, Or.inl ⟨Int32.toNatClampNeg t.1, by omega, by (try dsimp only); omega, by omega, fun v hv => i2 v (by omega)⟩⟩
/-- what a text needs is laid into a row -/
theorem wh_spell (n : Nat) (hn : 4294967297 < n) {a t : Nat} {x : Int32} {s : wt_St} (ha : wt_ln a = 26) (h37 : a ≠ 37) (hx : x.toInt = (t : Int)) (ht : t < 8) : wt_H (wp_tx_spell n a x s) (fun q => wt_fr (fun _ _ => False) (fun i => i = a) s q ∧ ∀ l, l < 26 → wt_ga q a l = wt_ga s 37 (26 * t + l)) := by
  have k0 : (0 : Int32).toInt = 0 := by decide
  have k26 : (26 : Int32).toInt = 26 := by decide
  have hl26 : (nI (wt_ln a)).toInt = 26 := by rw [ha]; exact nI_toInt (by omega)
  unfold wp_tx_spell
  refine wt_H_it (fun u : Int32 × wt_St => 0 ≤ u.1.toInt ∧ wt_fr (fun _ _ => False) (fun i => i = a) s u.2 ∧ ∀ l : Nat, (l : Int) < u.1.toInt → wt_ga u.2 a l = wt_ga s 37 (26 * t + l)) (fun K u I hK => ?_) n _ ⟨by show 0 ≤ ((0 : Int32)).toInt; omega, wt_fr.rf, fun k hk => absurd (show (k : Int) < ((0 : Int32)).toInt from hk) (by omega)⟩
  obtain ⟨i1, f, i2⟩ := I
  have et := wt_tnI i1
  unfold wp_tx_spell_B2 wp_tx_needOf
  refine wt_H_if (fun c => ?_) (fun c => ?_)
  · have c' := wt_cle c
    exact wt_H_some ⟨f, fun l hl => i2 l (by omega)⟩
  · have c' := wt_ncle c
    have ei := wt_i1 (c := u.1) (by omega)
    have em := wt_mulR (x := x) k26 (by omega) (by omega)
    have ea := wt_addE (x := x * (26 : Int32)) (y := u.1) (by omega) (by omega)
    simp only [Option.bind_assoc]
    refine wt_H_bh (wh_look n hn (k := 26 * t + Int32.toNatClampNeg u.1) (by omega) (by rw [show wt_ln 37 = 208 from by decide]; omega)) (fun q hq => ?_)
    subst hq
    show wt_H (if u.1 < 0 ∨ (wt_ln a) ≤ Int32.toNatClampNeg u.1 then none else K ((u.1 + (1 : Int32)), (wt_sa u.2 a (Int32.toNatClampNeg u.1) (wt_ga u.2 37 (26 * t + Int32.toNatClampNeg u.1))))) _
    refine wt_H_gd (fun _ => ?_)
    obtain ⟨s1, ε⟩ : ∃ o : wt_St, o = wt_sa u.2 a (Int32.toNatClampNeg u.1) (wt_ga u.2 37 (26 * t + Int32.toNatClampNeg u.1)) := ⟨_, rfl⟩
    rw [← ε]
    refine hK _ ⟨by show 0 ≤ (u.1 + (1 : Int32)).toInt; omega, f.sa ε rfl, fun l hl => ?_⟩
    have hl' : (l : Int) < (u.1 + (1 : Int32)).toInt := hl
    show wt_ga s1 a l = _
    by_cases hc : l = Int32.toNatClampNeg u.1
    · rw [hc, wt_v_sa ε]; exact f.2 37 (fun h => h37 h.symm) _
    · rw [wt_w_sa ε l hc]; exact i2 l (by omega)
