/-! ends: the first week in which a word is lost -/
noncomputable def wu_st (n : Nat) (x : Int32) (o : Nat → Int32) (i : Nat) (q : wt_St) : Option wt_St := (wp_wk_stillSaid n x q).bind (fun r => wp_wk_printNext n (o i) r.2)
noncomputable def wu_V (n : Nat) (x : Int32) (o : Nat → Int32) (s : wt_St) (i : Nat) : Option (Int32 × wt_St) := (wu_CS (wu_st n x o) s i).bind (fun q => wp_wk_stillSaid n x q)
theorem wu_V_s (n : Nat) (x : Int32) (o : Nat → Int32) (s : wt_St) (i : Nat) : wu_V n x o s (i + 1) = (wu_V n x o s i).bind (fun r => (wp_wk_printNext n (o i) r.2).bind (fun q => wp_wk_stillSaid n x q)) := by
  show ((wu_CS (wu_st n x o) s i).bind (fun q => (wp_wk_stillSaid n x q).bind (fun r => wp_wk_printNext n (o i) r.2))).bind (fun q => wp_wk_stillSaid n x q) = ((wu_CS (wu_st n x o) s i).bind (fun q => wp_wk_stillSaid n x q)).bind (fun r => (wp_wk_printNext n (o i) r.2).bind (fun q => wp_wk_stillSaid n x q))
  rw [Option.bind_assoc, Option.bind_assoc]
  congr 1
  funext q
  rw [Option.bind_assoc]
def wu_ls (n : Nat) (x : Int32) (o : Nat → Int32) (s : wt_St) (i : Nat) : Prop := ∃ r, wu_V n x o s i = some ((0 : Int32), r)
theorem wu_V_ex (n : Nat) (hn : 4294967297 < n) (x : Int32) (o : Nat → Int32) (s : wt_St) : ∀ i, (∃ u, wu_CS (wu_st n x o) s i = some u) ∧ ∃ v, wu_V n x o s i = some v := by
  have A : ∀ q, ∃ v, wp_wk_stillSaid n x q = some v := fun q => by
    obtain ⟨v, h, -⟩ := wq_wk_stillSaid n hn x q
    exact ⟨v, h⟩
  have B : ∀ y q, ∃ v, wp_wk_printNext n y q = some v := fun y q => by
    obtain ⟨v, h, -⟩ := wq_wk_printNext n hn y q
    exact ⟨v, h⟩
  have C : ∀ i, (∃ u, wu_CS (wu_st n x o) s i = some u) → ∃ v, wu_V n x o s i = some v := fun i ⟨u, hu⟩ => by
    obtain ⟨v, hv⟩ := A u
    exact ⟨v, by unfold wu_V; rw [hu]; exact hv⟩
  intro i
  induction i with
  | zero => exact ⟨⟨s, rfl⟩, C 0 ⟨s, rfl⟩⟩
  | succ i ih =>
    obtain ⟨⟨u, hu⟩, -⟩ := ih
    obtain ⟨v, hv⟩ := A u
    obtain ⟨w, hw⟩ := B (o i) v.2
    have h : wu_CS (wu_st n x o) s (i + 1) = some w := by
      show (wu_CS (wu_st n x o) s i).bind (fun q => wu_st n x o i q) = some w
      rw [hu]
      show (wp_wk_stillSaid n x u).bind (fun r => wp_wk_printNext n (o i) r.2) = some w
      rw [hv]
      exact hw
    exact ⟨⟨w, h⟩, C _ ⟨w, h⟩⟩
theorem wh_V_fr (n : Nat) (hn : 4294967297 < n) {x : Int32} {o : Nat → Int32} {s : wt_St} : ∀ i, wt_H (wu_V n x o s i) (fun q => wu_fC s q.2 ∧ ∀ j, wt_ga q.2 99 j = wt_ga s 99 j) := by
  have A : ∀ q, wt_H (wp_wk_stillSaid n x q) (fun r => wu_fC q r.2 ∧ ∀ j, wt_ga r.2 99 j = wt_ga q 99 j) := fun q => (wq_wk_stillSaid n hn x q).h.imp (fun r h => ⟨h.wk (fun _ _ h => h.elim) (fun _ h => by omega), h.2 99 (by decide)⟩)
  intro i
  induction i with
  | zero => exact A s
  | succ i ih =>
    rw [wu_V_s]
    refine wt_H_bh ih (fun r hr => ?_)
    refine wt_H_bh (wq_wk_printNext n hn (o i) r.2).h (fun q hq => ?_)
    refine (A q).imp (fun q' h => ⟨wu_fC_tr (wu_fC_tr hr.1 (hq.wk (fun _ _ h => by omega) (fun _ h => by omega))) h.1, fun j => (h.2 j).trans ((hq.2 99 (by decide) j).trans (hr.2 j))⟩)
def wu_ic (s : wt_St) (o : Nat → Int32) (W : Nat) (x : Int) (c : Nat) : Prop := c ≤ W ∧ (∀ j, j < c → wu_wk s (o j) < x) ∧ ∀ j, c ≤ j → j < W → x ≤ wu_wk s (o j)
set_option maxHeartbeats 1000000 in
theorem wh_firstLost (n : Nat) (hn : 4294967297 < n) {W : Nat} {x1 : Int32} {s : wt_St} (hW : (wt_gf s 39 8).toInt = (W : Int)) (h10 : W ≤ 10) (hw : ∀ k, k < W → 0 ≤ (wt_ga s 46 k).toInt ∧ (wt_ga s 46 k).toInt ≤ 99) : wt_H (wp_wk_firstLost n x1 s) (fun q => ∃ s1, (wu_fC s s1 ∧ wu_so s1 (wt_ga s1 99) W ∧ (wt_gf s1 86 8 = 0 ∧ wt_gf s1 86 9 = 0) ∧ ∀ j, j < 312 → wt_ga s1 98 j = wt_ga s 40 j) ∧ ((wu_ls n x1 (wt_ga s1 99) s1 0 ∧ q.1 = 0) ∨ (∃ i, i < W ∧ (∀ j, j ≤ i → ¬ wu_ls n x1 (wt_ga s1 99) s1 j) ∧ wu_ls n x1 (wt_ga s1 99) s1 (i + 1) ∧ q.1.toInt = wu_wk s1 (wt_ga s1 99 i) + 1) ∨ ((∀ j, j ≤ W → ¬ wu_ls n x1 (wt_ga s1 99) s1 j) ∧ q.1 = -1))) := by
  have k0 : (0 : Int32).toInt = 0 := by decide
  unfold wp_wk_firstLost
  refine wt_H_bh (wh_startGreedy n hn hW h10) (fun s1 h1 => ?_)
  have so := h1.2.1
  have f1 := h1.1
  refine wt_H_bh (wt_H_self _) (fun q2 h2 => ?_)
  have V0 : wu_V n x1 (wt_ga s1 99) s1 0 = some q2 := h2
  refine wt_H_if (fun c => wt_H_some ⟨s1, h1, Or.inl ⟨⟨q2.2, by rw [V0, ← c]⟩, rfl⟩⟩) (fun c => ?_)
  refine wt_H_it (fun t : Int32 × wt_St => (0 ≤ t.1.toInt ∧ t.1.toInt ≤ (W : Int)) ∧ (∃ v, wu_V n x1 (wt_ga s1 99) s1 (Int32.toNatClampNeg t.1) = some (v, t.2)) ∧ ∀ j : Nat, (j : Int) ≤ t.1.toInt → ¬ wu_ls n x1 (wt_ga s1 99) s1 j) (fun K t I hK => ?_) n _ ⟨⟨by show 0 ≤ ((0 : Int32)).toInt; omega, by show ((0 : Int32)).toInt ≤ _; omega⟩, ⟨q2.1, by show wu_V n x1 (wt_ga s1 99) s1 (Int32.toNatClampNeg (0 : Int32)) = _; rw [wt_tn0]; exact V0⟩, fun j hj => by
    have hj' : (j : Int) ≤ ((0 : Int32)).toInt := hj
    have e : j = 0 := by omega
    rw [e]
    rintro ⟨r, hr⟩
    rw [V0] at hr
    exact c (congrArg Prod.fst (Option.some.inj hr))⟩
  obtain ⟨⟨i0, i1⟩, ⟨v, hv⟩, i3⟩ := I
  have et := wt_tnI i0
  have ft := wh_V_fr n hn _ _ hv
  have ft1 : wu_fC s1 t.2 := ft.1
  have ft2 : ∀ j, wt_ga t.2 99 j = wt_ga s1 99 j := ft.2
  unfold wp_wk_firstLost_B16
  rw [ft1.1 39 8 (by decide), f1.1 39 8 (by decide)]
  refine wt_H_if (fun g => ?_) (fun g => ?_)
  · have g' := wt_cle g
    exact wt_H_some ⟨s1, h1, Or.inr (Or.inr ⟨fun j hj => i3 j (by omega), rfl⟩)⟩
  · have g' := wt_ncle g
    have ei := wt_i1 (c := t.1) (by omega)
    have en : Int32.toNatClampNeg (t.1 + (1 : Int32)) = Int32.toNatClampNeg t.1 + 1 := by have := wt_tnI (x := t.1 + (1 : Int32)) (by omega); omega
    refine wt_H_bh (wh_look n hn (k := Int32.toNatClampNeg t.1) et.symm (by rw [show wt_ln 99 = 10 from by decide]; omega)) (fun q5 h5 => ?_)
    subst h5
    dsimp only
    rw [ft2]
    refine wt_H_bh (wt_H_and (wt_H_self _) (wq_wk_printNext n hn _ t.2).h) (fun q6 h6 => ?_)
    refine wt_H_bh (wt_H_and (wt_H_self _) (wq_wk_stillSaid n hn x1 q6).h) (fun q7 h7 => ?_)
    have V1 : wu_V n x1 (wt_ga s1 99) s1 (Int32.toNatClampNeg t.1 + 1) = some q7 := by
      rw [wu_V_s, hv]
      show (wp_wk_printNext n (wt_ga s1 99 (Int32.toNatClampNeg t.1)) t.2).bind (fun q => wp_wk_stillSaid n x1 q) = some q7
      rw [h6.1]
      exact h7.1
    have ob := so.1 (Int32.toNatClampNeg t.1) (by omega)
    have eo := wt_tnI ob.1
    refine wt_H_if (fun d => ?_) (fun d => ?_)
    · refine wt_H_bh (wh_look n hn (k := Int32.toNatClampNeg (wt_ga s1 99 (Int32.toNatClampNeg t.1))) eo.symm (by rw [show wt_ln 46 = 10 from by decide]; omega)) (fun q9 h9 => ?_)
      subst h9
      dsimp only
      have hk := hw (Int32.toNatClampNeg (wt_ga s1 99 (Int32.toNatClampNeg t.1))) (by omega)
      have e46 : ∀ j, wt_ga q7.2 46 j = wt_ga s1 46 j := fun j => (h7.2.2 46 (by decide) j).trans ((h6.2.2 46 (by decide) j).trans (ft1.2 46 (by decide) j))
      have ew := wt_i1 (c := wt_ga q7.2 46 (Int32.toNatClampNeg (wt_ga s1 99 (Int32.toNatClampNeg t.1)))) (by rw [e46, f1.2 46 (by decide)]; omega)
      refine wt_H_some ⟨s1, h1, Or.inr (Or.inl ⟨Int32.toNatClampNeg t.1, by omega, fun j hj => i3 j (by omega), ⟨q7.2, by rw [V1, ← d]⟩, ?_⟩)⟩
      show ((wt_ga q7.2 46 (Int32.toNatClampNeg (wt_ga s1 99 (Int32.toNatClampNeg t.1)))) + (1 : Int32)).toInt = _
      rw [ew, e46]
      rfl
    · refine hK _ ⟨⟨by show 0 ≤ (t.1 + (1 : Int32)).toInt; omega, by show (t.1 + (1 : Int32)).toInt ≤ _; omega⟩, ⟨q7.1, by show wu_V n x1 (wt_ga s1 99) s1 (Int32.toNatClampNeg (t.1 + (1 : Int32))) = _; rw [en]; exact V1⟩, fun j hj => ?_⟩
      have hj' : (j : Int) ≤ (t.1 + (1 : Int32)).toInt := hj
      by_cases e : j = Int32.toNatClampNeg t.1 + 1
      · rw [e]
        rintro ⟨r, hr⟩
        rw [V1] at hr
        exact d (congrArg Prod.fst (Option.some.inj hr))
      · exact i3 j (by omega)
theorem wu_go_le {y y' : wt_St} {l : Nat} {c : Int} (m : wt_ga y' 111 l = wt_ga y 111 l) (on : ∀ i : Nat, (i : Int) < (wt_ga y 111 l).toInt → wt_ga y' 124 (13 * l + i) = wt_ga y 124 (13 * l + i)) (le : ∀ i : Nat, (i : Int) < (wt_ga y 111 l).toInt → (wt_ga y' 121 (13 * l + i)).toInt ≤ (wt_ga y 121 (13 * l + i)).toInt) : wt_go y' c l ≤ wt_go y c l := by
  unfold wt_go
  rw [m]
  refine wt_sum_le _ (fun k hk => ?_)
  have hk' : (k : Int) < (wt_ga y 111 l).toInt := by
    rcases wt_tn (wt_ga y 111 l) with h | h
    · exfalso
      have := wt_tnle (b := 0) (x := wt_ga y 111 l) (by omega)
      omega
    · omega
  have a := on k hk'
  have b := le k hk'
  show wt_gf1 y' c (13 * l + k) ≤ wt_gf1 y c (13 * l + k)
  unfold wt_gf1
  rw [a]
  by_cases h : (wt_ga y 124 (13 * l + k)).toInt = -1 ∧ c ≤ (wt_ga y' 121 (13 * l + k)).toInt
  · rw [if_pos h, if_pos ⟨h.1, by omega⟩]
    exact Int.le_refl _
  · rw [if_neg h]
    split <;> omega
/-- a word is lost when it can't be once -/
theorem wh_stillSaidG (n : Nat) (hn : 4294967297 < n) {w W : Nat} {x1 : Int32} {s z : wt_St} (r : wt_RI z) (sk : wu_SK 98 s z) (tt : wt_tt 20 126 128 130 193 W s z) (hW : W ≤ 60) (hx : x1.toInt = (w : Int)) (hw : w < W) : wt_H (wp_wk_stillSaid n x1 s) (fun q => q.1 = 0 ↔ ¬ ∀ l : Nat, l < 26 → wt_nw z w (l : Int) ≤ wt_go z 1 l) := by
  have k0 : (0 : Int32).toInt = 0 := by decide
  unfold wp_wk_stillSaid
  refine wt_H_bh (wh_spellW n hn (a := 100) (by decide) (by decide) (by decide) tt hW hx hw) (fun s1 h1 => ?_)
  obtain ⟨f1, n1⟩ := h1
  have sk1 : wu_SK 98 s1 z := wu_SK_fr sk f1 (wt_fr.rf (F := fun _ _ => False) (A := fun _ => False)) ⟨by decide, by decide, by decide⟩ ⟨fun h => h, fun h => h, fun h => h⟩
  refine wt_H_bh (wh_often n hn (a1 := 100) (a2 := 98) (by decide) (by decide) sk1 r) (fun q hq => ?_)
  obtain ⟨-, b, -, e⟩ := hq
  refine wt_H_some ?_
  show q.1 = 0 ↔ _
  have e1 := e 1 (by omega) (by omega)
  constructor
  · intro h hl
    have := e1.mpr (fun l h26 => by rw [n1 l h26]; exact hl l h26)
    rw [h] at this
    omega
  · intro h
    by_cases c : 1 ≤ q.1.toInt
    · exact absurd (fun l h26 => by rw [← n1 l h26]; exact e1.mp c l h26) h
    · exact wt_eqI (by omega)
/-- the two chains, with what the class says between its steps -/
theorem wr_stepV (n : Nat) (hn : 4294967297 < n) {W i : Nat} {x1 : Int32} {s z q : wt_St} {y : Int32 × wt_St} {o : Nat → Int32} (h10 : W ≤ 10) (bs : wu_BS 98 s z) (hW : (wt_gf z 108 40).toInt = (W : Int)) (so : wu_so s o W) (hi : i < W) (G : wu_G W s z o i q y) : wt_HH (wu_st n x1 o i q) (wu_ZS n (o i) y) (fun q' y' => wu_G W s z o (i + 1) q' y' ∧ ∀ l j : Nat, l < 26 → (j : Int) < (wt_ga z 111 l).toInt → (wt_ga y'.2 121 (13 * l + j)).toInt ≤ (wt_ga y.2 121 (13 * l + j)).toInt) := by
  unfold wu_st
  refine wt_HH_l (wq_wk_stillSaid n hn x1 q).h (fun r hr => ?_)
  obtain ⟨g1, g2, g3, ⟨g4, g5⟩, g6⟩ := G
  exact wr_step n hn h10 bs hW so hi ⟨wu_SK_fr g1 hr (wt_fr.rf (F := fun _ _ => False) (A := fun _ => False)) ⟨by decide, by decide, by decide⟩ ⟨fun h => h, fun h => h, fun h => h⟩, wt_fr.tr g2 hr (fun _ _ h => h.elim) (fun _ h => Or.inr h), g3, ⟨by rw [hr.1 86 9 (fun h => h)]; exact g4, by rw [hr.1 86 8 (fun h => h)]; exact g5⟩, g6⟩
theorem wr_chainV (n : Nat) (hn : 4294967297 < n) {W : Nat} {x1 : Int32} {s z : wt_St} {o : Nat → Int32} (h10 : W ≤ 10) (bs : wu_BS 98 s z) (hW : (wt_gf z 108 40).toInt = (W : Int)) (so : wu_so s o W) (g0 : wu_G W s z o 0 s ((0 : Int32), z)) : ∀ i, i ≤ W → wt_HH (wu_CS (wu_st n x1 o) s i) (wu_CZ n o z i) (wu_G W s z o i) := wr_chain n (st := wu_st n x1 o) g0 (fun i q y hi G => (wr_stepV n hn h10 bs hW so hi G).imp (fun q' y' h => h.1))
theorem wu_G_tt {W i T : Nat} {s z q : wt_St} {y : Int32 × wt_St} {o : Nat → Int32} (tt : wt_tt 20 126 128 130 193 T s z) (h60 : T ≤ 60) (G : wu_G W s z o i q y) : wt_tt 20 126 128 130 193 T q y.2 := wt_tt_fr tt G.2.1 G.2.2.1.1 (fun i a b => by (try dsimp only); omega) (fun i a => by (try dsimp only); omega)
theorem wu_G_nw {W i w : Nat} {l : Int} {s z q : wt_St} {y : Int32 × wt_St} {o : Nat → Int32} (h : w ≤ 59) (G : wu_G W s z o i q y) : wt_nw y.2 w l = wt_nw z w l := wt_nw_fr h (fun i hi j => G.2.2.1.1.2 i (by unfold wt_PA at hi; (try dsimp only); omega) j)
theorem wu_ls_mono (n : Nat) (hn : 4294967297 < n) {W w T : Nat} {x1 : Int32} {s z : wt_St} {o : Nat → Int32} (h10 : W ≤ 10) (bs : wu_BS 98 s z) (hW : (wt_gf z 108 40).toInt = (W : Int)) (so : wu_so s o W) (g0 : wu_G W s z o 0 s ((0 : Int32), z)) (tt : wt_tt 20 126 128 130 193 T s z) (h60 : T ≤ 60) (hx : x1.toInt = (w : Int)) (hw : w < T) {i : Nat} (hi : i < W) (h : wu_ls n x1 o s i) : wu_ls n x1 o s (i + 1) := by
  have rz := bs.1
  obtain ⟨r, hr⟩ := h
  obtain ⟨⟨u, hu⟩, -⟩ := wu_V_ex n hn x1 o s i
  obtain ⟨⟨u', hu'⟩, ⟨v', hv'⟩⟩ := wu_V_ex n hn x1 o s (i + 1)
  have hr1 : wp_wk_stillSaid n x1 u = some ((0 : Int32), r) := by
    have e : wu_V n x1 o s i = wp_wk_stillSaid n x1 u := by
      unfold wu_V
      rw [hu]
      rfl
    rw [← e]
    exact hr
  have hv1 : wp_wk_stillSaid n x1 u' = some v' := by
    have e : wu_V n x1 o s (i + 1) = wp_wk_stillSaid n x1 u' := by
      unfold wu_V
      rw [hu']
      rfl
    rw [← e]
    exact hv'
  -- the reference's side goes on as well
  have ZX : ∀ j, j ≤ W → ∃ y, wu_CZ n o z j = some y ∧ wu_fR z y.2 ∧ wt_RI y.2 := by
    intro j
    induction j with
    | zero => exact fun _ => ⟨_, rfl, wt_fr.rf, rz⟩
    | succ j ih =>
      intro hj
      obtain ⟨y, e, f, ry⟩ := ih (by omega)
      have ob := so.1 j (by omega)
      obtain ⟨q, eq, fq, rq⟩ := wq_md_isPrinted n hn (o j) y.2 ry ob.1 (by rw [f.1 108 40 (by decide), hW]; exact ob.2)
      refine ⟨(if q.1 = 0 then y.1 else y.1 ||| ((1 : Int32) <<< (o j &&& 31)), q.2), ?_, wu_fR_tr f (fq.wk (fun _ _ h => by omega) (fun _ h => by omega)), rq⟩
      show (wu_CZ n o z j).bind (fun u => wu_ZS n (o j) u) = some (if q.1 = 0 then y.1 else y.1 ||| ((1 : Int32) <<< (o j &&& 31)), q.2)
      rw [e]
      show (wp_md_isPrinted n (o j) y.2).bind _ = _
      rw [eq]
      rfl
  obtain ⟨y, ey, -⟩ := ZX i (by omega)
  obtain ⟨y', ey', -⟩ := ZX (i + 1) (by omega)
  have Gi := wr_chainV n hn (x1 := x1) h10 bs hW so g0 i (by omega) u y hu ey
  have st : wu_st n x1 o i u = some u' := by
    have e : wu_CS (wu_st n x1 o) s (i + 1) = wu_st n x1 o i u := by
      show (wu_CS (wu_st n x1 o) s i).bind (fun q => wu_st n x1 o i q) = _
      rw [hu]
      rfl
    rw [← e]
    exact hu'
  have zs : wu_ZS n (o i) y = some y' := by
    have e : wu_CZ n o z (i + 1) = wu_ZS n (o i) y := by
      show (wu_CZ n o z i).bind (fun u => wu_ZS n (o i) u) = _
      rw [ey]
      rfl
    rw [← e]
    exact ey'
  obtain ⟨Gs, LE⟩ := wr_stepV n hn (x1 := x1) h10 bs hW so hi Gi u' y' st zs
  have A := wh_stillSaidG n hn Gi.2.2.1.2.1 Gi.1 (wu_G_tt tt h60 Gi) h60 hx hw _ hr1
  have B := wh_stillSaidG n hn Gs.2.2.1.2.1 Gs.1 (wu_G_tt tt h60 Gs) h60 hx hw _ hv1
  have A' := A.mp rfl
  have z0 : v'.1 = 0 := B.mpr (fun hl => A' (fun l h26 => by
    have := hl l h26
    rw [wu_G_nw (by omega) Gs] at this
    rw [wu_G_nw (by omega) Gi]
    have m1 : wt_ga y.2 111 l = wt_ga z 111 l := Gi.2.2.1.1.2 111 (by decide) l
    have m2 : wt_ga y'.2 111 l = wt_ga z 111 l := Gs.2.2.1.1.2 111 (by decide) l
    have := wu_go_le (y := y.2) (y' := y'.2) (l := l) (c := 1) (m2.trans m1.symm) (fun i _ => (Gs.2.2.1.2.2 _).trans (Gi.2.2.1.2.2 _).symm) (fun i hi => LE l i h26 (by rw [← m1]; exact hi))
    omega))
  exact ⟨v'.2, by rw [hv', ← z0]⟩
set_option maxHeartbeats 2000000 in
theorem wh_endsLoop (n : Nat) (hn : 4294967297 < n) {W w T : Nat} {x1 : Int32} {s s1 z : wt_St} (h10 : W ≤ 10) (bs : wu_BS 40 s z) (hW : (wt_gf z 108 40).toInt = (W : Int)) (f1 : wu_fC s s1) (so : wu_so s1 (wt_ga s1 99) W) (v0 : wt_gf s1 86 8 = 0 ∧ wt_gf s1 86 9 = 0) (cp : ∀ j, j < 312 → wt_ga s1 98 j = wt_ga s 40 j) (tt : wt_tt 20 126 128 130 193 T s z) (h60 : T ≤ 60) (hx : x1.toInt = (w : Int)) (hw : w < T) : wt_H (wt_it (wp_md_ends_B30 n x1) n ((0 : Int32), z)) (fun q => wt_gf q.2 108 0 = wt_gf z 108 0 ∧ (((0 ≤ q.1.toInt ∧ q.1.toInt ≤ 100) ∧ (∀ c, wu_ic s1 (wt_ga s1 99) W q.1.toInt c → wu_ls n x1 (wt_ga s1 99) s1 c) ∧ ∀ x : Int, 0 ≤ x → x < q.1.toInt → ∀ c, wu_ic s1 (wt_ga s1 99) W x c → ¬ wu_ls n x1 (wt_ga s1 99) s1 c) ∨ (q.1 = -1 ∧ ∀ x : Int, 0 ≤ x → x ≤ 100 → ∀ c, wu_ic s1 (wt_ga s1 99) W x c → ¬ wu_ls n x1 (wt_ga s1 99) s1 c))) := by
  have k0 : (0 : Int32).toInt = 0 := by decide
  have k100 : (100 : Int32).toInt = 100 := by decide
  have rz := bs.1
  obtain ⟨W', -, W1, W2, W3⟩ := wu_BS_W bs
  have eW : W' = W := by omega
  rw [eW] at W3
  have wknn : ∀ j, j < W → 0 ≤ wu_wk s1 (wt_ga s1 99 j) := fun j hj => by
    have b := so.1 j hj
    have e := wt_tnI b.1
    unfold wu_wk
    rw [f1.2 46 (by decide)]
    exact (W3 _ (by omega)).2.2.1.1
  have uni : ∀ (x : Int) (c c' : Nat), wu_ic s1 (wt_ga s1 99) W x c → wu_ic s1 (wt_ga s1 99) W x c' → c = c' := fun x c c' h h' => by
    rcases Nat.lt_trichotomy c c' with a | a | a
    · have p := h'.2.1 c a
      have q := h.2.2 c (Nat.le_refl _) (by have := h'.1; omega)
      omega
    · exact a
    · have p := h.2.1 c' a
      have q := h'.2.2 c' (Nat.le_refl _) (by have := h.1; omega)
      omega
  refine wt_H_it (fun t : Int32 × wt_St => (0 ≤ t.1.toInt ∧ t.1.toInt ≤ 101) ∧ wu_fR z t.2 ∧ wu_KE z t.2 ∧ ∀ x : Int, 0 ≤ x → x < t.1.toInt → ∀ c, wu_ic s1 (wt_ga s1 99) W x c → ¬ wu_ls n x1 (wt_ga s1 99) s1 c) (fun K t I hK => ?_) n _ ⟨⟨by show 0 ≤ ((0 : Int32)).toInt; omega, by show ((0 : Int32)).toInt ≤ 101; omega⟩, wt_fr.rf, ⟨rz, fun _ => rfl, fun _ _ => rfl⟩, fun x h1 h2 => absurd (show x < ((0 : Int32)).toInt from h2) (by omega)⟩
  obtain ⟨⟨i0, i1⟩, f, ke, i2⟩ := I
  unfold wp_md_ends_B30
  refine wt_H_if (fun c => ?_) (fun c => ?_)
  · have c' := wt_clt c
    exact wt_H_some ⟨f.1 108 0 (by decide), Or.inr ⟨rfl, fun x h1 hx' => i2 x h1 (by omega)⟩⟩
  · have c' := wt_ncl c
    have ei := wt_i1 (c := t.1) (by omega)
    obtain ⟨cn, hc⟩ := wu_cnt_wk so t.1.toInt
    obtain ⟨c0, c1, c2⟩ := hc
    have GA : wt_H (wp_md_greedyAhead n t.1 t.2) (fun q6 => ∃ z1, (wu_BS 98 s1 z1 ∧ wu_G W s1 z1 (wt_ga s1 99) 0 s1 ((0 : Int32), z1)) ∧ wu_fR z z1 ∧ wu_CZ n (wt_ga s1 99) z1 cn = some q6) := by
      unfold wp_md_greedyAhead
      refine wt_H_bh (wt_H_and (wh_putsR n) (wq_md_puts n hn t.2 ke.1).h) (fun z1 h2 => ?_)
      obtain ⟨⟨g1, -⟩, -, r1⟩ := h2
      rw [wu_bind_eta]
      have G1 : wu_fR z z1 := wu_fR_tr f (g1.wk (fun _ _ h => h.elim) (fun _ h => by omega))
      have st := wu_G_start h10 bs f1 v0 cp G1 ⟨fun c => (g1.2 124 (by decide) c).trans (ke.2.1 c), fun c hc => (g1.2 121 (by decide) c).trans (ke.2.2 c hc)⟩ r1 (wt_ga s1 99)
      exact (wh_prints n hn so h10 (by rw [G1.1 108 40 (by decide)]; exact hW) (fun k hk => by
        obtain ⟨a, -, b, -⟩ := W3 k hk
        rw [f1.2 46 (by decide), G1.2 (264 + k) (by (try dsimp only); omega)]
        exact ⟨a, b.1⟩) r1 i0 c0 c1 c2).imp (fun q hq => ⟨z1, st, G1, hq⟩)
    refine wt_H_bh (wt_H_and GA (wt_H_and (wh_greedyAhead_KA n hn ke) (wq_md_greedyAhead n hn t.1 t.2 ke.1).h)) (fun q6 h6 => ?_)
    obtain ⟨⟨z1, ⟨bs1, g0⟩, G1, hz1⟩, ka, f6, r6⟩ := h6
    have F6 : wu_fR z q6.2 := wu_fR_tr f (f6.wk (fun _ _ h => h) (fun _ h => by omega))
    have e28 : T ≤ 60 := h60
    refine wt_H_bh (wt_H_and (wt_H_self _) (wh_canWord_KA n hn ka (by omega) (by omega))) (fun q7 h7 => ?_)
    obtain ⟨h7, ka7, f7⟩ := h7
    have F7 : wu_fR z q7.2 := wu_fR_tr F6 (f7.wk (fun _ _ h => h.elim) (fun _ h => by omega))
    refine wt_H_bh (wt_H_and (wh_putsBack_KE n hn ka7) (wh_putsBackR n)) (fun q8 h8 => ?_)
    obtain ⟨ke8, f8, -⟩ := h8
    have F8 : wu_fR z q8 := wu_fR_tr F7 (f8.wk (fun _ _ h => h.elim) (fun _ h => by omega))
    -- what the class says there
    obtain ⟨⟨u, hu⟩, ⟨v, hv⟩⟩ := wu_V_ex n hn x1 (wt_ga s1 99) s1 cn
    have tt1 : wt_tt 20 126 128 130 193 T s1 z1 := wt_tt_fr tt f1 G1 (fun i a b => by (try dsimp only); omega) (fun i a => by (try dsimp only); omega)
    have Gc := wr_chainV n hn (x1 := x1) h10 bs1 (by rw [G1.1 108 40 (by decide)]; exact hW) so g0 cn c0 u q6 hu hz1
    have hv1 : wp_wk_stillSaid n x1 u = some v := by
      have e : wu_V n x1 (wt_ga s1 99) s1 cn = wp_wk_stillSaid n x1 u := by
        unfold wu_V
        rw [hu]
        rfl
      rw [← e]
      exact hv
    have same : v.1 = q7.1 := (wr_stillSaid n hn Gc.2.2.1.2.1 Gc.1 (wu_G_tt tt1 h60 Gc) h60 hx hw v q7 hv1 h7).1
    refine wt_H_if (fun d => ?_) (fun d => ?_)
    · refine wt_H_some ⟨F8.1 108 0 (by decide), Or.inl ⟨⟨i0, by show t.1.toInt ≤ 100; omega⟩, fun c hc => ?_, i2⟩⟩
      rw [uni _ c cn hc ⟨c0, c1, c2⟩]
      exact ⟨v.2, by rw [hv, ← d, ← same]⟩
    · refine hK _ ⟨⟨by show 0 ≤ (t.1 + (1 : Int32)).toInt; omega, by show (t.1 + (1 : Int32)).toInt ≤ 101; omega⟩, F8, ke8, fun x h1 h2 c hc => ?_⟩
      have h2' : x < (t.1 + (1 : Int32)).toInt := h2
      by_cases e : x = t.1.toInt
      · rw [e] at hc
        rw [uni _ c cn hc ⟨c0, c1, c2⟩]
        rintro ⟨r, hr⟩
        rw [hv] at hr
        exact d (same.symm.trans (congrArg Prod.fst (Option.some.inj hr)))
      · exact i2 x h1 (by omega) c hc
theorem wr_ends (n : Nat) (hn : 4294967297 < n) {x1 : Int32} {s z : wt_St} (v : wt_IV z) (rl : wu_RL s z) : wt_HH (wp_ap_ends n x1 s) (wp_md_ends n x1 z) (fun q y => (q.1 = 2 ∧ wt_gf y.2 108 0 = 1) ∨ (q.1 = 0 ∧ wt_gf y.2 108 0 = 0 ∧ q.2.1 = y.1)) := by
  have k0 : (0 : Int32).toInt = 0 := by decide
  unfold wp_ap_ends wp_md_ends
  obtain ⟨z0, ε0⟩ : ∃ o : wt_St, o = wt_sf z 108 0 (0 : Int32) := ⟨_, rfl⟩
  rw [← ε0]
  have g0 := wt_fr_sf ε0
  have t0 : wt_gf z0 108 0 = 0 := wt_v_sf ε0
  have r0 : wt_RI z0 := wt_RI_fno v.1 ε0 (Or.inr (by decide +kernel))
  have rl0 := wu_RL_z0 rl v.1 g0
  have bs := wu_BS_of r0 rl0
  have hz : 0 ≤ (wt_gf z0 108 28).toInt ∧ (wt_gf z0 108 28).toInt ≤ 60 := wt_Rf6 r0
  obtain ⟨T, G, ⟨w1, w2, w3⟩, -, tt, -⟩ := rl0.2.2.1
  refine wr_gW n (wp_ap_ends_B16 n x1) (wp_md_ends_B19 n x1) (w1.trans w2.symm) hz (wr_mb1 n t0 (by decide) (Or.inl ⟨rfl, wt_v_sf rfl⟩)) (fun hx0 hx1 => wr_mb0 n t0 ?_)
  dsimp only
  have hx := (wt_tnI hx0).symm
  obtain ⟨W, h10, W1, W2, W3⟩ := wu_BS_W bs
  refine wt_HH_l (wh_firstLost n hn W1 h10 (fun k hk => (W3 k hk).2.2.1)) (fun q4 h4 => ?_)
  obtain ⟨s1, ⟨f1, so, v0, cp⟩, h4⟩ := h4
  refine wt_HH_rr (wh_endsLoop n hn h10 bs W2 f1 so v0 cp tt w3 hx (by omega)) (fun y hy => wt_H_some (Or.inr ⟨rfl, hy.1.trans t0, ?_⟩))
  show q4.1 = y.1
  have hy2 := hy.2
  have wkb : ∀ j, j < W → 0 ≤ wu_wk s1 (wt_ga s1 99 j) ∧ wu_wk s1 (wt_ga s1 99 j) ≤ 99 := fun j hj => by
    have b := so.1 j hj
    have e := wt_tnI b.1
    unfold wu_wk
    rw [f1.2 46 (by decide)]
    exact (W3 _ (by omega)).2.2.1
  have G1 : wu_fR z0 z0 := wt_fr.rf
  obtain ⟨bs1, gg⟩ := wu_G_start h10 bs f1 v0 cp G1 ⟨fun _ => rfl, fun _ _ => rfl⟩ r0 (wt_ga s1 99)
  have tt1 : wt_tt 20 126 128 130 193 T s1 z0 := wt_tt_fr tt f1 G1 (fun i a b => by (try dsimp only); omega) (fun i a => by (try dsimp only); omega)
  have mono : ∀ i j, i ≤ j → j ≤ W → wu_ls n x1 (wt_ga s1 99) s1 i → wu_ls n x1 (wt_ga s1 99) s1 j := by
    intro i j
    induction j with
    | zero => intro h1 _ h; rw [show (0 : Nat) = i by omega]; exact h
    | succ j ih =>
      intro h1 h2 h
      by_cases e : i = j + 1
      · rw [← e]; exact h
      · exact wu_ls_mono n hn h10 bs1 W2 so gg tt1 w3 hx (by omega) (by omega) (ih (by omega) (by omega) h)
  rcases h4 with ⟨l0, e0⟩ | ⟨i, iW, no, yes, e0⟩ | ⟨no, e0⟩
  · have ic0 : wu_ic s1 (wt_ga s1 99) W 0 0 := ⟨by omega, fun j hj => absurd hj (by omega), fun j _ hj => (wkb j hj).1⟩
    rcases hy2 with ⟨⟨y0, y1⟩, y2, y3⟩ | ⟨y0, y3⟩
    · rw [e0]
      refine wt_eqI ?_
      by_cases c : y.1.toInt = 0
      · omega
      · exact absurd l0 (y3 0 (by omega) (by omega) 0 ic0)
    · exact absurd l0 (y3 0 (by omega) (by omega) 0 ic0)
  · obtain ⟨c, c0, c1, c2⟩ := wu_cnt_wk so (wu_wk s1 (wt_ga s1 99 i) + 1)
    have bi := wkb i iW
    have ci : i + 1 ≤ c := by
      rcases Nat.lt_or_ge i c with h | h
      · omega
      · have := c2 i h iW
        omega
    have lc := mono (i + 1) c ci c0 yes
    have below : ∀ x c', x ≤ wu_wk s1 (wt_ga s1 99 i) → wu_ic s1 (wt_ga s1 99) W x c' → c' ≤ i := fun x c' hx' hc' => by
      rcases Nat.lt_or_ge i c' with h | h
      · have := hc'.2.1 i h
        omega
      · exact h
    rcases hy2 with ⟨⟨y0, y1⟩, y2, y3⟩ | ⟨y0, y3⟩
    · refine wt_eqI ?_
      rw [e0]
      rcases Int.lt_trichotomy y.1.toInt (wu_wk s1 (wt_ga s1 99 i) + 1) with h | h | h
      · obtain ⟨c', hc'⟩ := wu_cnt_wk so y.1.toInt
        exact absurd (y2 c' hc') (no c' (below _ c' (by omega) hc'))
      · omega
      · exact absurd lc (y3 _ (by omega) h c ⟨c0, c1, c2⟩)
    · exact absurd lc (y3 _ (by omega) (by omega) c ⟨c0, c1, c2⟩)
  · rcases hy2 with ⟨⟨y0, y1⟩, y2, y3⟩ | ⟨y0, y3⟩
    · obtain ⟨c', hc'⟩ := wu_cnt_wk so y.1.toInt
      exact absurd (y2 c' hc') (no c' hc'.1)
    · rw [e0, y0]
