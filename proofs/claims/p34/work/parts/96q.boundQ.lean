-- 96q.bound.lean.txt
section WTQ0
/-! bound: for each letter what is worth most for each print of it -/
theorem wt_HH_itb {α α' ρ ρ' τ : Type} {body : (α → Option ρ) → α → Option ρ} {f : ρ → Option τ} {body' : (α' → Option ρ') → α' → Option ρ'} {Q : τ → ρ' → Prop} (I : α → α' → Prop) (h : ∀ (K : α → Option ρ) (K' : α' → Option ρ') (s : α) (s' : α'), I s s' → (∀ t t', I t t' → wt_HH ((K t).bind f) (K' t') Q) → wt_HH ((body K s).bind f) (body' K' s') Q) : ∀ (n n' : Nat) (s : α) (s' : α'), I s s' → wt_HH ((wt_it body n s).bind f) (wt_it body' n' s') Q := by
  intro n
  induction n with
  | zero => intro n' s s' _; exact wt_HH_nl
  | succ n ih =>
    intro n' s s' hs
    cases n' with
    | zero => exact wt_HH_nr
    | succ n' => exact h _ _ s s' hs (fun t t' ht => ih n' t t' ht)
def wu_lf (z : wt_St) (l i : Nat) : Int := if (wt_ga z 124 (13 * l + i)).toInt = -1 then (wt_ga z 121 (13 * l + i)).toInt else 0
def wu_ls0 (z : wt_St) (l : Nat) : Nat → Int := wt_sum (wu_lf z l)
theorem wu_lf_bd {z : wt_St} (r : wt_RI z) (l i : Nat) : 0 ≤ wu_lf z l i ∧ wu_lf z l i ≤ 400 := by
  have h : 0 ≤ (wt_ga z 121 (13 * l + i)).toInt ∧ (wt_ga z 121 (13 * l + i)).toInt ≤ 400 := wt_Ra3 r 121 (show 120 ≤ 121 by omega) (show 121 < 122 by omega) _
  unfold wu_lf
  split <;> omega
theorem wh_leftInCase (n : Nat) (hn : 4294967297 < n) {l : Nat} {x1 : Int32} {s z : wt_St} (r : wt_RI z) (sk : wu_SK 40 s z) (hx : x1.toInt = (l : Int)) (hl : l < 26) : wt_H (wp_sk_leftInCase n x1 s) (fun q => q.2 = s ∧ q.1.toInt = wu_ls0 z l (Int32.toNatClampNeg (wt_ga z 111 l))) := by
  have k0 : (0 : Int32).toInt = 0 := by decide
  obtain ⟨m1, m2, m3⟩ := sk l hl
  have em := wt_tnI m2.1
  unfold wp_sk_leftInCase
  refine wt_H_it (fun t : Int32 × Int32 × wt_St => t.2.2 = s ∧ (0 ≤ t.2.1.toInt ∧ t.2.1.toInt ≤ (wt_ga s 5 l).toInt) ∧ t.1.toInt = wu_ls0 z l (Int32.toNatClampNeg t.2.1)) (fun K t I hK => ?_) n _ ⟨rfl, ⟨by show 0 ≤ ((0 : Int32)).toInt; omega, by show ((0 : Int32)).toInt ≤ _; omega⟩, by show ((0 : Int32)).toInt = wu_ls0 z l (Int32.toNatClampNeg (0 : Int32)); rw [wt_tn0, k0]; rfl⟩
  obtain ⟨i0, ⟨i1, i2⟩, i3⟩ := I
  have et := wt_tnI i1
  unfold wp_sk_leftInCase_B4
  rw [i0]
  refine wt_H_bh (wh_pieces n hn hx hl) (fun q1 h1 => ?_)
  subst h1
  dsimp only
  refine wt_H_if (fun c => ?_) (fun c => ?_)
  · have c' := wt_cle c
    refine wt_H_some ⟨rfl, ?_⟩
    show t.1.toInt = _
    rw [i3, ← m1, show Int32.toNatClampNeg t.2.1 = Int32.toNatClampNeg (wt_ga s 5 l) by omega]
  · have c' := wt_ncle c
    have ei := wt_i1 (c := t.2.1) (by omega)
    have ep := wt_piece hx hl i1 (by omega)
    have en : Int32.toNatClampNeg (t.2.1 + (1 : Int32)) = Int32.toNatClampNeg t.2.1 + 1 := by have := wt_tnI (x := t.2.1 + (1 : Int32)) (by omega); omega
    obtain ⟨p1, p2⟩ := m3 (Int32.toNatClampNeg t.2.1) (by omega)
    have sb := wt_sum_bd (f := wu_lf z l) (c := 400) (Int32.toNatClampNeg t.2.1) (fun k _ => wu_lf_bd r l k)
    have sb' : 0 ≤ t.1.toInt ∧ t.1.toInt ≤ 400 * (Int32.toNatClampNeg t.2.1 : Int) := by rw [i3]; exact sb
    have lb := wu_lf_bd r l (Int32.toNatClampNeg t.2.1)
    have B : ∀ y : Int32, y.toInt = wu_lf z l (Int32.toNatClampNeg t.2.1) → wt_H (wp_sk_leftInCase_B47 n x1 t.2.1 K t.1 y s) (fun q => q.2 = s ∧ q.1.toInt = wu_ls0 z l (Int32.toNatClampNeg (wt_ga z 111 l))) := fun y hy => by
      have ea := wt_addE (x := t.1) (y := y) (by omega) (by omega)
      unfold wp_sk_leftInCase_B47
      refine hK _ ⟨rfl, ⟨by show 0 ≤ (t.2.1 + (1 : Int32)).toInt; omega, by show (t.2.1 + (1 : Int32)).toInt ≤ _; omega⟩, ?_⟩
      show (t.1 + y).toInt = wu_ls0 z l (Int32.toNatClampNeg (t.2.1 + (1 : Int32)))
      rw [en, ea, i3, hy]
      rfl
    refine wt_H_bh (wh_lies n hn (j := 12 * l + Int32.toNatClampNeg t.2.1) ep (by omega)) (fun q3 h3 => ?_)
    obtain ⟨e3, h3⟩ := h3
    rw [e3]
    rcases h3 with ⟨u, h3⟩ | ⟨u, h3⟩
    · rw [if_neg (show ¬ q3.1 = 0 by rw [u]; decide)]
      refine wt_H_bh (wh_look n hn (k := 12 * l + Int32.toNatClampNeg t.2.1) ep (by rw [show wt_ln 40 = 312 from by decide]; omega)) (fun q5 h5 => ?_)
      subst h5
      refine B _ ?_
      show (wt_ga s 40 (12 * l + Int32.toNatClampNeg t.2.1)).toInt = _
      unfold wu_lf
      rw [p2] at h3
      rw [if_pos h3, p1]
    · rw [if_pos (show q3.1 = 0 from u)]
      refine B _ ?_
      unfold wu_lf
      rw [p2] at h3
      rw [if_neg h3, k0]
/-- what a wanted one needs of a letter -/
theorem wu_nt_bd {s z : wt_St} {t : Nat} (to : wt_TO s z) (x : wu_X1 s z t) (l : Int) : 0 ≤ wt_nt z t l ∧ wt_nt z t l ≤ 108 := by
  obtain ⟨W, G, ⟨-, w2, -⟩, -, tt, -⟩ := to
  obtain ⟨m, m1, m2, m3, m4, m5, -⟩ := x
  have em : Int32.toNatClampNeg (wt_ga z 253 t) = m := by
    rw [m2]
    exact wt_tnN m1
  have b := wt_sum_bd (f := fun k => wt_nw z (Int32.toNatClampNeg (wt_ga z (255 + t) k)) l) (c := 9) m (fun k hk => by
    obtain ⟨e1, e2, e3⟩ := m5 k hk
    have et := wt_tnI e2
    rw [e1] at et e3
    obtain ⟨a, -, -, b, -⟩ := tt (Int32.toNatClampNeg (wt_ga z (255 + t) k)) (by omega)
    have c := wt_ct_bd (fun k' => (wt_ga z (193 + Int32.toNatClampNeg (wt_ga z (255 + t) k)) k').toInt) l (Int32.toNatClampNeg (wt_ga z 126 (Int32.toNatClampNeg (wt_ga z (255 + t) k))))
    have d := wt_tnle (b := 9) (x := wt_ga z 126 (Int32.toNatClampNeg (wt_ga z (255 + t) k))) (by rw [← a]; omega)
    show 0 ≤ wt_nw z (Int32.toNatClampNeg (wt_ga z (255 + t) k)) l ∧ wt_nw z (Int32.toNatClampNeg (wt_ga z (255 + t) k)) l ≤ 9
    unfold wt_nw
    omega)
  unfold wt_nt
  rw [em]
  omega
def wu_ui (s : wt_St) (l k : Nat) : Int32 := (wt_ga s 37 (26 * Int32.toNatClampNeg (wt_ga s 44 k) + l)) * (wt_ga s 45 k)
theorem wu_ui_bd {s z : wt_St} (bs : wu_BS 40 s z) {l k W : Nat} (hW : (wt_gf z 108 40).toInt = (W : Int)) (hl : l < 26) (hk : k < W) : (0 ≤ (wt_ga s 44 k).toInt ∧ (wt_ga s 44 k).toInt ≤ 7) ∧ 0 ≤ (wu_ui s l k).toInt ∧ (wu_ui s l k).toInt ≤ 43200 := by
  obtain ⟨r, -, to, tx, ⟨w1, w2, w3⟩, -⟩ := bs
  have hz : 0 ≤ (wt_gf z 108 39).toInt ∧ (wt_gf z 108 39).toInt ≤ 8 := wt_Rf7 r
  obtain ⟨-, ⟨b0, b1⟩, ⟨b2, b3⟩, -⟩ := w3 k (by rw [w1]; omega)
  have et := wt_tnI b0
  have X := tx.2 (Int32.toNatClampNeg (wt_ga s 44 k)) (by omega)
  have nb := wu_nt_bd to X (l : Int)
  obtain ⟨-, -, -, -, -, -, tn6⟩ := X
  have e := tn6 l hl
  refine ⟨by omega, ?_⟩
  have m1 : 0 ≤ (wt_ga s 37 (26 * Int32.toNatClampNeg (wt_ga s 44 k) + l)).toInt * (wt_ga s 45 k).toInt := Int.mul_nonneg (by omega) (by omega)
  have m2 : (wt_ga s 37 (26 * Int32.toNatClampNeg (wt_ga s 44 k) + l)).toInt * (wt_ga s 45 k).toInt ≤ 108 * 400 := Int.mul_le_mul (by omega) (by omega) (by omega) (by omega)
  have em := wt_mulE (x := wt_ga s 37 (26 * Int32.toNatClampNeg (wt_ga s 44 k) + l)) (y := wt_ga s 45 k) (by omega) (by omega)
  unfold wu_ui
  omega
theorem wh_printsOf (n : Nat) (hn : 4294967297 < n) {k l : Nat} {x1 x2 : Int32} {s : wt_St} (h1 : x1.toInt = (k : Int)) (hk : k < 10) (h2 : x2.toInt = (l : Int)) (hl : l < 26) (ht : 0 ≤ (wt_ga s 44 k).toInt ∧ (wt_ga s 44 k).toInt ≤ 7) : wt_H (wp_wk_printsOf n x1 x2 s) (fun q => q = (wu_ui s l k, s)) := by
  have k26 : (26 : Int32).toInt = 26 := by decide
  have et := wt_tnI ht.1
  unfold wp_wk_printsOf wp_tx_needOf
  refine wt_H_bh (wh_look n hn (k := k) h1 (by rw [show wt_ln 44 = 10 from by decide]; exact hk)) (fun q hq => ?_)
  subst hq
  dsimp only
  rw [wu_bind_eta]
  have em := wt_mulR (x := wt_ga s 44 k) k26 (by omega) (by omega)
  have ea := wt_addE (x := wt_ga s 44 k * (26 : Int32)) (y := x2) (by omega) (by omega)
  refine wt_H_bh (wh_look n hn (k := 26 * Int32.toNatClampNeg (wt_ga s 44 k) + l) (by omega) (by rw [show wt_ln 37 = 208 from by decide]; omega)) (fun q hq => ?_)
  subst hq
  dsimp only
  refine wt_H_bh (wh_look n hn (k := k) h1 (by rw [show wt_ln 45 = 10 from by decide]; exact hk)) (fun q hq => ?_)
  subst hq
  exact wt_H_some rfl
/-- which are done already, and what each needs -/
def wu_UR (s z : wt_St) (l W : Nat) (x : Int32) : Prop := ∀ k, k < W → (wu_bt x (nI k) ∧ wt_ga z 320 k = wu_ui s l k) ∨ (¬ wu_bt x (nI k) ∧ wt_ga z 320 k = (-1 : Int32))
set_option maxRecDepth 100000 in
set_option maxHeartbeats 4000000 in
theorem wr_boundLoop (n : Nat) (hn : 4294967297 < n) {l W : Nat} {x1 w : Int32} {s z z1 : wt_St} (bs : wu_BS 40 s z) (hW : (wt_gf z 108 40).toInt = (W : Int)) (h10 : W ≤ 10) (hx : x1.toInt = (l : Int)) (hl : l < 26) (hw : 0 ≤ w.toInt) (f : wt_fr (fun _ _ => False) (fun i => i = 287 ∨ i = 320) z z1) (ur : wu_UR s z1 l W 0) : wt_HH (wt_it (wp_wk_boundBy_B17 n x1) n (w, (0 : Int32), (0 : Int32), (0 : Int32), s)) (wt_it (wp_md_boundOf_B114 n) n (w, (0 : Int32), (0 : Int32), z1)) (fun q y => q.1 = y.1 ∧ q.2 = s ∧ wt_fr (fun _ _ => False) (fun i => i = 287 ∨ i = 320) z y.2) := by
  have k0 : (0 : Int32).toInt = 0 := by decide
  have e3 : Int32.toNatClampNeg (3 : Int32) = 3 := by decide
  obtain ⟨W', -, W1, W2, W3⟩ := wu_BS_W bs
  have eW : W' = W := by omega
  rw [eW] at W1 W3
  refine wt_HH_it (fun (t : Int32 × Int32 × Int32 × Int32 × wt_St) (u : Int32 × Int32 × Int32 × wt_St) => (t.1 = u.1 ∧ 0 ≤ u.1.toInt) ∧ t.2.1 = u.2.1 ∧ t.2.2.2.1 = u.2.2.1 ∧ t.2.2.2.2 = s ∧ wt_fr (fun _ _ => False) (fun i => i = 287 ∨ i = 320) z u.2.2.2 ∧ wu_UR s u.2.2.2 l W t.2.2.1) (fun K17 K114 t u I hK => ?_) n n _ _ ⟨⟨rfl, hw⟩, rfl, rfl, rfl, f, ur⟩
  obtain ⟨⟨i1, i1b⟩, i2, i3, i4, fu, ru⟩ := I
  unfold wp_wk_boundBy_B17 wp_md_boundOf_B114
  have e8 : wt_gf s 39 8 = wt_gf z 108 40 := wt_eqI (by omega)
  rw [i1, i2, i3, i4, fu.1 108 40 (fun h => h), e8]
  by_cases c : wt_gf z 108 40 ≤ u.2.2.1
  · rw [if_pos c, if_pos c]
    exact wt_HH_some ⟨rfl, rfl, fu⟩
  · rw [if_neg c, if_neg c]
    unfold wp_wk_dearestOf
    refine wt_HH_itb (fun (p r : Int32 × Int32 × wt_St) => p.1 = r.1 ∧ p.2.1 = r.2.1 ∧ p.2.2 = s ∧ r.2.2 = u.2.2.2 ∧ (0 ≤ r.2.1.toInt ∧ r.2.1.toInt ≤ (W : Int)) ∧ (r.1 = -1 ∨ ((0 ≤ r.1.toInt ∧ r.1.toInt < (W : Int)) ∧ wt_ga u.2.2.2 320 (Int32.toNatClampNeg r.1) = wu_ui s l (Int32.toNatClampNeg r.1)))) (fun K5 K129 p r J hK2 => ?_) n n _ _ ⟨rfl, rfl, rfl, rfl, ⟨by show 0 ≤ ((0 : Int32)).toInt; omega, by show ((0 : Int32)).toInt ≤ _; omega⟩, Or.inl rfl⟩
    obtain ⟨j1, j2, j3, j4, ⟨j5, j6⟩, j7⟩ := J
    have ej := wt_tnI j5
    unfold wp_wk_dearestOf_B5 wp_md_boundOf_B129
    rw [j1, j2, j3, j4, fu.1 108 40 (fun h => h), e8, e3]
    by_cases d : wt_gf z 108 40 ≤ r.2.1
    · rw [if_pos d, if_pos d]
      refine wt_HH_gr (fun gd => ?_)
      have gd' := wt_ixn gd
      rcases j7 with j7 | ⟨⟨j8, j9⟩, j10⟩
      · rw [j7, wt_lm1] at gd'
        omega
      · have eb := wt_tnI j8
        show wt_HH (if r.1 = (-1 : Int32) then some (u.2.1, s) else (wp_wk_printsOf n r.1 x1 s).bind fun q5 => (wp_ap_look n 47 r.1 q5.2).bind fun q6 => if q5.1 ≤ u.1 then wp_wk_boundBy_B99 n x1 u.1 u.2.1 (t.2.2.1 ||| ((1 : Int32) <<< (r.1 &&& 31))) u.2.2.1 q5.1 q6.1 K17 q6.2 else if q5.1 ≤ 0 then wp_wk_boundBy_B99 n x1 u.1 u.2.1 (t.2.2.1 ||| ((1 : Int32) <<< (r.1 &&& 31))) u.2.2.1 q5.1 q6.1 K17 q6.2 else if q5.1 = 0 then none else some ((u.2.1 + ((q6.1 * u.1) / q5.1)), q6.2)) _ _
        rw [if_neg (show ¬ r.1 = (-1 : Int32) from fun h => by rw [h, wt_lm1] at j8; omega)]
        obtain ⟨ub1, ub2⟩ := wu_ui_bd bs (l := l) (k := Int32.toNatClampNeg r.1) hW hl (by omega)
        refine wt_HH_l (wh_printsOf n hn (k := Int32.toNatClampNeg r.1) eb.symm (by omega) hx hl ub1) (fun q5 h5 => ?_)
        subst h5
        dsimp only
        refine wt_HH_l (wh_look n hn (k := Int32.toNatClampNeg r.1) eb.symm (by rw [show wt_ln 47 = 10 from by decide]; omega)) (fun q6 h6 => ?_)
        subst h6
        dsimp only
        have w47 : wt_ga s 47 (Int32.toNatClampNeg r.1) = wt_ga u.2.2.2 (264 + Int32.toNatClampNeg r.1) 3 := by
          rw [fu.2 (264 + Int32.toNatClampNeg r.1) (by (try dsimp only); omega)]
          exact (W3 _ (by omega)).2.1
        rw [j10, w47]
        by_cases g : wu_ui s l (Int32.toNatClampNeg r.1) ≤ u.1
        · rw [if_pos g, if_pos g]
          have g' := wt_cle g
          refine wt_HH_gr (fun _ => wt_HH_gr (fun _ => wt_HH_gr (fun _ => wt_HH_gr (fun _ => ?_))))
          unfold wp_wk_boundBy_B99
          obtain ⟨z2, ε⟩ : ∃ o : wt_St, o = wt_sa u.2.2.2 320 (Int32.toNatClampNeg r.1) (-1 : Int32) := ⟨_, rfl⟩
          rw [← ε]
          have es := wt_subE (x := u.1) (y := wu_ui s l (Int32.toNatClampNeg r.1)) (by omega) (by have := wt_bd u.1; omega)
          refine hK _ _ ⟨⟨rfl, by show 0 ≤ (u.1 - wu_ui s l (Int32.toNatClampNeg r.1)).toInt; omega⟩, rfl, rfl, rfl, fu.sa ε (Or.inr rfl), fun k hk => ?_⟩
          show (wu_bt (t.2.2.1 ||| ((1 : Int32) <<< (r.1 &&& 31))) (nI k) ∧ wt_ga z2 320 k = wu_ui s l k) ∨ (¬ wu_bt (t.2.2.1 ||| ((1 : Int32) <<< (r.1 &&& 31))) (nI k) ∧ wt_ga z2 320 k = (-1 : Int32))
          have er : r.1 = nI (Int32.toNatClampNeg r.1) := wt_nIt j8
          by_cases x : k = Int32.toNatClampNeg r.1
          · refine Or.inr ⟨fun h => ?_, by rw [x]; exact wt_v_sa ε⟩
            rw [er] at h
            exact ((wu_bt_or (by omega) (by omega)).mp h).2 x
          · rw [wt_w_sa ε k x]
            rcases ru k hk with ⟨a, b⟩ | ⟨a, b⟩
            · refine Or.inl ⟨?_, b⟩
              rw [er]
              exact (wu_bt_or (by omega) (by omega)).mpr ⟨a, x⟩
            · refine Or.inr ⟨fun h => ?_, b⟩
              rw [er] at h
              exact a ((wu_bt_or (by omega) (by omega)).mp h).1
        · rw [if_neg g, if_neg g]
          have g' := wt_ncle g
          rw [if_neg (show ¬ wu_ui s l (Int32.toNatClampNeg r.1) ≤ 0 from fun h => by have := wt_cle h; omega)]
          refine wt_HH_gl (fun nz => ?_)
          refine wt_HH_gr (fun _ => wt_HH_gr (fun _ => wt_HH_gr (fun _ => ?_)))
          rw [if_neg nz]
          exact wt_HH_some ⟨rfl, rfl, fu⟩
    · rw [if_neg d, if_neg d]
      have d' := wt_ncle d
      have ei := wt_i1 (c := r.2.1) (by omega)
      have ek : r.2.1 = nI (Int32.toNatClampNeg r.2.1) := wt_nIt j5
      refine wt_HH_gr (fun _ => ?_)
      unfold wp_wk_dearestOf_B75 wp_wk_dearestOf_B78 wp_md_boundOf_B194 wp_md_boundOf_B201 wp_md_boundOf_B203
      have NX : ∀ v : Int32, (v = -1 ∨ ((0 ≤ v.toInt ∧ v.toInt < (W : Int)) ∧ wt_ga u.2.2.2 320 (Int32.toNatClampNeg v) = wu_ui s l (Int32.toNatClampNeg v))) → wt_HH ((K5 (v, (r.2.1 + (1 : Int32)), s)).bind fun q3 => if q3.1 = (-1 : Int32) then some (u.2.1, q3.2) else (wp_wk_printsOf n q3.1 x1 q3.2).bind fun q5 => (wp_ap_look n 47 q3.1 q5.2).bind fun q6 => if q5.1 ≤ u.1 then wp_wk_boundBy_B99 n x1 u.1 u.2.1 (t.2.2.1 ||| ((1 : Int32) <<< (q3.1 &&& 31))) u.2.2.1 q5.1 q6.1 K17 q6.2 else if q5.1 ≤ 0 then wp_wk_boundBy_B99 n x1 u.1 u.2.1 (t.2.2.1 ||| ((1 : Int32) <<< (q3.1 &&& 31))) u.2.2.1 q5.1 q6.1 K17 q6.2 else if q5.1 = 0 then none else some ((u.2.1 + ((q6.1 * u.1) / q5.1)), q6.2)) (K129 (v, (r.2.1 + (1 : Int32)), u.2.2.2)) (fun q y => q.1 = y.1 ∧ q.2 = s ∧ wt_fr (fun _ _ => False) (fun i => i = 287 ∨ i = 320) z y.2) := fun v hv => hK2 _ _ ⟨rfl, rfl, rfl, rfl, ⟨by show 0 ≤ (r.2.1 + (1 : Int32)).toInt; omega, by show (r.2.1 + (1 : Int32)).toInt ≤ _; omega⟩, hv⟩
      rcases ru (Int32.toNatClampNeg r.2.1) (by omega) with ⟨a, b⟩ | ⟨a, b⟩
      · have a' : wu_bt t.2.2.1 r.2.1 := by rw [ek]; exact a
        obtain ⟨ub1, ub2⟩ := wu_ui_bd bs (l := l) (k := Int32.toNatClampNeg r.2.1) hW hl (by omega)
        rw [if_pos (show ((t.2.2.1 >>> (r.2.1 &&& 31)) &&& (1 : Int32)) = 0 from a'), if_pos (show (0 : Int32) ≤ wt_ga u.2.2.2 320 (Int32.toNatClampNeg r.2.1) by rw [b]; exact Int32.le_iff_toInt_le.mpr (by omega))]
        rcases j7 with j7 | ⟨⟨j8, j9⟩, j10⟩
        · rw [if_pos j7, if_pos j7]
          exact NX _ (Or.inr ⟨⟨j5, by omega⟩, b⟩)
        · have nb : ¬ r.1 = (-1 : Int32) := fun h => by rw [h, wt_lm1] at j8; omega
          rw [if_neg nb, if_neg nb]
          have eb := wt_tnI j8
          obtain ⟨vb1, vb2⟩ := wu_ui_bd bs (l := l) (k := Int32.toNatClampNeg r.1) hW hl (by omega)
          refine wt_HH_gr (fun _ => wt_HH_gr (fun _ => wt_HH_gr (fun _ => wt_HH_gr (fun _ => wt_HH_gr (fun _ => wt_HH_gr (fun _ => ?_))))))
          refine wt_HH_lb (wh_look n hn (k := Int32.toNatClampNeg r.2.1) ej.symm (by rw [show wt_ln 47 = 10 from by decide]; omega)) (fun q4 h4 => ?_)
          subst h4
          dsimp only
          refine wt_HH_lb (wh_printsOf n hn (k := Int32.toNatClampNeg r.1) eb.symm (by omega) hx hl vb1) (fun q5 h5 => ?_)
          subst h5
          dsimp only
          refine wt_HH_lb (wh_look n hn (k := Int32.toNatClampNeg r.1) eb.symm (by rw [show wt_ln 47 = 10 from by decide]; omega)) (fun q6 h6 => ?_)
          subst h6
          dsimp only
          refine wt_HH_lb (wh_printsOf n hn (k := Int32.toNatClampNeg r.2.1) ej.symm (by omega) hx hl ub1) (fun q7 h7 => ?_)
          subst h7
          dsimp only
          have w47 : ∀ k, k < W → wt_ga u.2.2.2 (264 + k) 3 = wt_ga s 47 k := fun k hk => by
            rw [fu.2 (264 + k) (by (try dsimp only); omega)]
            exact (W3 _ hk).2.1.symm
          rw [j10, b, w47 _ (show Int32.toNatClampNeg r.1 < W by omega), w47 _ (show Int32.toNatClampNeg r.2.1 < W by omega)]
          by_cases g : wt_ga s 47 (Int32.toNatClampNeg r.2.1) * wu_ui s l (Int32.toNatClampNeg r.1) ≤ wt_ga s 47 (Int32.toNatClampNeg r.1) * wu_ui s l (Int32.toNatClampNeg r.2.1)
          · rw [if_pos g, if_pos g]
            exact NX _ (Or.inr ⟨⟨j8, j9⟩, j10⟩)
          · rw [if_neg g, if_neg g]
            exact NX _ (Or.inr ⟨⟨j5, by omega⟩, b⟩)
      · have a' : ¬ wu_bt t.2.2.1 r.2.1 := by rw [ek]; exact a
        rw [if_neg (show ¬ ((t.2.2.1 >>> (r.2.1 &&& 31)) &&& (1 : Int32)) = 0 from a'), if_neg (show ¬ (0 : Int32) ≤ wt_ga u.2.2.2 320 (Int32.toNatClampNeg r.2.1) by rw [b]; exact fun h => by have := wt_cle h; rw [wt_lm1] at this; omega)]
        exact NX _ j7
/-! what each needs is laid out, behind the prints that are there -/
set_option maxHeartbeats 2000000 in
theorem wr_boundBy (n : Nat) (hn : 4294967297 < n) {l : Nat} {x1 : Int32} {s z : wt_St} (bs : wu_BS 40 s z) (hx : x1.toInt = (l : Int)) (hl : l < 26) : wt_HH (wp_wk_boundBy n x1 s) (wp_md_boundOf n x1 z) (fun q y => q.1 = y.1 ∧ q.2 = s ∧ wt_fr (fun _ _ => False) (fun i => i = 287 ∨ i = 320) z y.2) := by
  have k0 : (0 : Int32).toInt = 0 := by decide
  have e0 : Int32.toNatClampNeg (0 : Int32) = 0 := by decide
  have e1 : Int32.toNatClampNeg (1 : Int32) = 1 := by decide
  have ex := wt_tnN hx
  obtain ⟨W, h10, W1, W2, W3⟩ := wu_BS_W bs
  obtain ⟨r, sk, to, tx, ww, hb⟩ := bs
  have g111 : 0 ≤ (wt_ga z 111 l).toInt ∧ (wt_ga z 111 l).toInt ≤ 12 := by
    have := (sk l hl).2.1
    rw [(sk l hl).1] at this
    exact this
  have em := wt_tnI g111.1
  unfold wp_wk_boundBy wp_md_boundOf
  refine wt_HH_l (wh_leftInCase n hn r sk hx hl) (fun q1 h1 => ?_)
  obtain ⟨h1a, h1b⟩ := h1
  rw [h1a]
  have lb : ∀ k, 0 ≤ wu_ls0 z l k ∧ wu_ls0 z l k ≤ 400 * (k : Int) := fun k => wt_sum_bd k (fun i _ => wu_lf_bd r l i)
  -- the reference's prints
  refine wt_HH_itr (fun u : Int32 × Int32 × wt_St => u.2.2 = z ∧ (0 ≤ u.2.1.toInt ∧ u.2.1.toInt ≤ (wt_ga z 111 l).toInt) ∧ u.1.toInt = wu_ls0 z l (Int32.toNatClampNeg u.2.1)) (fun K u I hK => ?_) n _ ⟨rfl, ⟨by show 0 ≤ ((0 : Int32)).toInt; omega, by show ((0 : Int32)).toInt ≤ _; omega⟩, by show ((0 : Int32)).toInt = wu_ls0 z l (Int32.toNatClampNeg (0 : Int32)); rw [wt_tn0, k0]; rfl⟩
  obtain ⟨i0, ⟨i1, i2⟩, i3⟩ := I
  have eu := wt_tnI i1
  unfold wp_md_boundOf_B10
  rw [i0, ex]
  refine wt_HH_gr (fun _ => wt_HH_ir (fun c => ?_) (fun c => ?_))
  · have c' := wt_cle c
    have same : q1.1 = u.1 := wt_eqI (by rw [h1b, i3, show Int32.toNatClampNeg u.2.1 = Int32.toNatClampNeg (wt_ga z 111 l) by omega])
    have wnn : 0 ≤ q1.1.toInt := by
      rw [h1b]
      exact (lb _).1
    rw [← same]
    -- what each needs
    refine wt_HH_itr (fun p : Int32 × wt_St => (0 ≤ p.1.toInt ∧ p.1.toInt ≤ (W : Int)) ∧ wt_RI p.2 ∧ wt_fr (fun _ _ => False) (fun i => i = 287 ∨ i = 320) z p.2 ∧ ∀ k : Nat, (k : Int) < p.1.toInt → wt_ga p.2 320 k = wu_ui s l k) (fun K2 p J hK2 => ?_) n _ ⟨⟨by show 0 ≤ ((0 : Int32)).toInt; omega, by show ((0 : Int32)).toInt ≤ _; omega⟩, r, wt_fr.rf, fun k hk => absurd (show (k : Int) < ((0 : Int32)).toInt from hk) (by omega)⟩
    obtain ⟨⟨j0, j1⟩, rp, fp, j2⟩ := J
    have ep := wt_tnI j0
    unfold wp_md_boundOf_B63
    rw [fp.1 108 40 (fun h => h)]
    refine wt_HH_ir (fun d => ?_) (fun d => ?_)
    · have d' := wt_cle d
      exact wr_boundLoop n hn ⟨r, sk, to, tx, ww, hb⟩ W2 h10 hx hl wnn fp (fun k hk => Or.inl ⟨wu_bt0 _, j2 k (by omega)⟩)
    · have d' := wt_ncle d
      have ei := wt_i1 (c := p.1) (by omega)
      rw [e0, e1, ex]
      refine wt_HH_gr (fun _ => wt_HH_gr (fun _ => ?_))
      have gw := (wt_R_w rp (264 + Int32.toNatClampNeg p.1) (by omega) (by omega)).1
      refine wt_HH_r (wq_md_needsText n hn _ p.2 rp gw.1 gw.2).h (fun q28 h28 => ?_)
      obtain ⟨f28, r28, -, v28⟩ := h28
      refine wt_HH_gr (fun _ => wt_HH_gr (fun _ => wt_HH_gr (fun _ => wt_HH_gr (fun _ => ?_))))
      obtain ⟨z2, ε⟩ : ∃ o : wt_St, o = wt_sa q28 320 (Int32.toNatClampNeg p.1) ((wt_ga q28 287 l) * (wt_ga q28 (264 + Int32.toNatClampNeg p.1) 1)) := ⟨_, rfl⟩
      rw [← ε]
      obtain ⟨w1, w2, w3⟩ := ww
      obtain ⟨⟨t0, t1, -, -⟩, ⟨b0, b1⟩, -⟩ := w3 (Int32.toNatClampNeg p.1) (by rw [w1]; omega)
      have t0' : wt_ga s 44 (Int32.toNatClampNeg p.1) = wt_ga z (264 + Int32.toNatClampNeg p.1) 0 := t0
      have t1' : wt_ga s 45 (Int32.toNatClampNeg p.1) = wt_ga z (264 + Int32.toNatClampNeg p.1) 1 := t1
      have et := wt_tnI b0
      have X := tx.2 (Int32.toNatClampNeg (wt_ga s 44 (Int32.toNatClampNeg p.1))) (by omega)
      obtain ⟨-, -, -, -, -, -, tn6⟩ := X
      have hz : 0 ≤ (wt_gf z 108 39).toInt ∧ (wt_gf z 108 39).toInt ≤ 8 := wt_Rf7 r
      have ui : (wt_ga q28 287 l) * (wt_ga q28 (264 + Int32.toNatClampNeg p.1) 1) = wu_ui s l (Int32.toNatClampNeg p.1) := by
        unfold wu_ui
        have a1 : wt_ga q28 (264 + Int32.toNatClampNeg p.1) 1 = wt_ga s 45 (Int32.toNatClampNeg p.1) := by
          rw [f28.2 _ (by omega), fp.2 _ (by omega), t1']
        have a2 : wt_ga q28 287 l = wt_ga s 37 (26 * Int32.toNatClampNeg (wt_ga s 44 (Int32.toNatClampNeg p.1)) + l) := by
          refine wt_eqI ?_
          rw [v28 l hl, tn6 l hl, fp.2 _ (by omega), ← t0']
          exact wt_nt_fr r (by omega) (fun i hi j => fp.2 i (by unfold wt_PA at hi; (try dsimp only); omega) j)
        rw [a1, a2]
      have r2 : wt_RI z2 := wt_RI_no r28 ε 320 321 (by decide +kernel) (by decide) (by decide)
      refine hK2 _ ⟨⟨by show 0 ≤ (p.1 + (1 : Int32)).toInt; omega, by show (p.1 + (1 : Int32)).toInt ≤ _; omega⟩, r2, (fp.tr (f28.wk (fun _ _ h => h) (fun _ h => Or.inl h)) (fun _ _ h => h) (fun _ h => h)).sa ε (Or.inr rfl), fun k hk => ?_⟩
      have hk' : (k : Int) < (p.1 + (1 : Int32)).toInt := hk
      show wt_ga z2 320 k = _
      by_cases x : k = Int32.toNatClampNeg p.1
      · rw [x, wt_v_sa ε]
        exact ui
      · rw [wt_w_sa ε k x, f28.2 320 (by decide)]
        exact j2 k (by omega)
  · have c' := wt_ncle c
    have ei := wt_i1 (c := u.2.1) (by omega)
    have en : Int32.toNatClampNeg (u.2.1 + (1 : Int32)) = Int32.toNatClampNeg u.2.1 + 1 := by have := wt_tnI (x := u.2.1 + (1 : Int32)) (by omega); omega
    have sb := lb (Int32.toNatClampNeg u.2.1)
    have l1 := wu_lf_bd r l (Int32.toNatClampNeg u.2.1)
    have B : ∀ y : Int32, y.toInt = wu_lf z l (Int32.toNatClampNeg u.2.1) → ∀ zz : wt_St, zz = z → wt_HH (wt_it (wp_wk_boundBy_B17 n x1) n (q1.1, (0 : Int32), (0 : Int32), (0 : Int32), s)) (wp_md_boundOf_B52 n x1 (0 : Int32) (0 : Int32) u.2.1 K u.1 y zz) (fun q y => q.1 = y.1 ∧ q.2 = s ∧ wt_fr (fun _ _ => False) (fun i => i = 287 ∨ i = 320) z y.2) := fun y hy zz hzz => by
      have ea := wt_addE (x := u.1) (y := y) (by omega) (by omega)
      unfold wp_md_boundOf_B52
      refine hK _ ⟨hzz, ⟨by show 0 ≤ (u.2.1 + (1 : Int32)).toInt; omega, by show (u.2.1 + (1 : Int32)).toInt ≤ _; omega⟩, ?_⟩
      show (u.1 + y).toInt = wu_ls0 z l (Int32.toNatClampNeg (u.2.1 + (1 : Int32)))
      rw [en, ea, i3, hy]
      rfl
    refine wt_HH_r (wh_cell n hx (i := Int32.toNatClampNeg u.2.1) eu.symm hl (by omega)) (fun y3 g3 => ?_)
    obtain ⟨g3a, g3b⟩ := g3
    rw [g3a, wt_tnN g3b]
    refine wt_HH_gr (fun _ => wt_HH_ir (fun o => ?_) (fun o => ?_))
    · refine wt_HH_r (wh_cell n hx (i := Int32.toNatClampNeg u.2.1) eu.symm hl (by omega)) (fun y4 g4 => ?_)
      obtain ⟨g4a, g4b⟩ := g4
      rw [g4a, wt_tnN g4b]
      refine wt_HH_gr (fun _ => B _ ?_ z rfl)
      unfold wu_lf
      rw [if_pos ((wt_ceq o).trans wt_lm1)]
    · refine B _ ?_ z rfl
      unfold wu_lf
      rw [if_neg (fun h => o (wt_eqI (h.trans wt_lm1.symm))), k0]
set_option maxHeartbeats 1000000 in
theorem wr_bound (n : Nat) (hn : 4294967297 < n) {s z : wt_St} (v : wt_IV z) (rl : wu_RL s z) : wt_HH (wp_ap_bound n s) (wp_md_bound n z) (fun q y => q.1 = y.1) := by
  have k0 : (0 : Int32).toInt = 0 := by decide
  have k1 : (1 : Int32).toInt = 1 := by decide
  have k26 : (26 : Int32).toInt = 26 := by decide
  unfold wp_ap_bound wp_md_bound
  rw [wu_bind_eta]
  unfold wp_wk_leastBound
  obtain ⟨z0, ε0⟩ : ∃ o : wt_St, o = wt_sf z 108 0 (0 : Int32) := ⟨_, rfl⟩
  rw [← ε0]
  have g0 := wt_fr_sf ε0
  have r0 : wt_RI z0 := wt_RI_fno v.1 ε0 (Or.inr (by decide +kernel))
  have bs := wu_BS_of r0 (wu_RL_z0 rl v.1 g0)
  have BS : ∀ z', wt_RI z' → wt_fr (fun _ _ => False) (fun i => i = 287 ∨ i = 320) z0 z' → wu_BS 40 s z' := fun z' r f => wu_BS_fr bs (wt_fr.rf : wu_fC s s) (f.wk (fun _ _ h => h.elim) (fun _ h => by omega)) r (wu_SK_fr bs.2.1 (wt_fr.rf (F := fun _ _ => False) (A := fun _ => False)) f ⟨fun h => h, fun h => h, fun h => h⟩ ⟨by decide, by decide, by decide⟩)
  refine wt_HH_b (wt_HH_andr (wr_boundBy n hn (l := 0) bs (by rw [k0]; rfl) (by omega)) (wq_md_boundOf n hn (0 : Int32) z0 r0 (by omega) (by omega)).h) (fun q1 y1 h => ?_)
  obtain ⟨⟨e1, e2, f1⟩, -, r1⟩ := h
  refine wt_HH_it (fun (t u : Int32 × Int32 × wt_St) => t.1 = u.1 ∧ t.2.1 = u.2.1 ∧ t.2.2 = s ∧ (0 ≤ u.2.1.toInt ∧ u.2.1.toInt ≤ 26) ∧ wt_RI u.2.2 ∧ wt_fr (fun _ _ => False) (fun i => i = 287 ∨ i = 320) z0 u.2.2) (fun K K' t u I hK => ?_) n n _ _ ⟨e1, rfl, e2, ⟨by show 0 ≤ ((1 : Int32)).toInt; omega, by show ((1 : Int32)).toInt ≤ 26; omega⟩, r1, f1⟩
  obtain ⟨i1, i2, i3, ⟨i4, i5⟩, ru, fu⟩ := I
  have et := wt_tnI i4
  unfold wp_wk_leastBound_B8 wp_md_bound_B13 wp_md_bound_B37
  rw [i1, i2, i3]
  by_cases c : (26 : Int32) ≤ u.2.1
  · rw [if_pos c, if_pos c]
    exact wt_HH_some rfl
  · rw [if_neg c, if_neg c]
    have c' := wt_ncle c
    have ei := wt_i1 (c := u.2.1) (by omega)
    refine wt_HH_b (wt_HH_andl (wt_HH_andr (wr_boundBy n hn (l := Int32.toNatClampNeg u.2.1) (BS _ ru fu) et.symm (by omega)) (wq_md_boundOf n hn u.2.1 u.2.2 ru i4 (by omega)).h) (wt_H_self _)) (fun q3 y3 h => ?_)
    obtain ⟨⟨⟨e1, e2, f3⟩, -, r3⟩, self⟩ := h
    have F3 := wt_fr.tr fu f3 (fun _ _ h => h) (fun _ h => h)
    rw [e2]
    refine wt_HH_ir (fun d => ?_) (fun d => ?_)
    · have d' := wt_cle d
      rw [if_neg (show ¬ q3.1 < u.1 from fun h => by have := wt_clt h; rw [e1] at this; omega)]
      exact hK _ _ ⟨rfl, rfl, rfl, ⟨by show 0 ≤ (u.2.1 + (1 : Int32)).toInt; omega, by show (u.2.1 + (1 : Int32)).toInt ≤ 26; omega⟩, r3, F3⟩
    · have d' := wt_ncle d
      rw [if_pos (show q3.1 < u.1 from Int32.lt_iff_toInt_lt.mpr (by rw [e1]; omega))]
      have again : wt_H (wp_md_boundOf n u.2.1 y3.2) (fun y5 => (q3.1 = y5.1 ∧ q3.2 = s ∧ wt_fr (fun _ _ => False) (fun i => i = 287 ∨ i = 320) y3.2 y5.2) ∧ wt_RI y5.2) := fun y5 h5 => ⟨wr_boundBy n hn (l := Int32.toNatClampNeg u.2.1) (BS _ r3 F3) et.symm (by omega) q3 y5 self h5, ((wq_md_boundOf n hn u.2.1 y3.2 r3 i4 (by omega)).h y5 h5).2⟩
      refine wt_HH_r again (fun y5 h5 => ?_)
      obtain ⟨⟨a1, -, f5⟩, r5⟩ := h5
      exact hK _ _ ⟨a1, rfl, rfl, ⟨by show 0 ≤ (u.2.1 + (1 : Int32)).toInt; omega, by show (u.2.1 + (1 : Int32)).toInt ≤ 26; omega⟩, r5, wt_fr.tr F3 f5 (fun _ _ h => h) (fun _ h => h)⟩
end WTQ0
-- 96r.trade.lean.txt
section WTQ1
/-! what a piece more would do, or another: the class by each letter's reach -/
theorem wh_needOf (n : Nat) (hn : 4294967297 < n) {t l : Nat} {x1 x2 : Int32} {s : wt_St} (h1 : x1.toInt = (t : Int)) (ht : t < 8) (h2 : x2.toInt = (l : Int)) (hl : l < 26) : wt_H (wp_tx_needOf n x1 x2 s) (fun q => q = (wt_ga s 37 (26 * t + l), s)) := by
  have k26 : (26 : Int32).toInt = 26 := by decide
  have em := wt_mulR (x := x1) k26 (by omega) (by omega)
  have ea := wt_addE (x := x1 * (26 : Int32)) (y := x2) (by omega) (by omega)
  unfold wp_tx_needOf
  rw [wu_bind_eta]
  exact wh_look n hn (k := 26 * t + l) (by omega) (by rw [show wt_ln 37 = 208 from by decide]; omega)
theorem wh_inCase (n : Nat) (hn : 4294967297 < n) {l : Nat} {x1 : Int32} {s z : wt_St} (sk : wu_SK 40 s z) (hx : x1.toInt = (l : Int)) (hl : l < 26) : wt_H (wp_sk_inCase n x1 s) (fun q => q.2 = s ∧ q.1.toInt = wt_go z 0 l) := by
  have k0 : (0 : Int32).toInt = 0 := by decide
  obtain ⟨m1, m2, -⟩ := sk l hl
  unfold wp_sk_inCase
  rw [wu_bind_eta]
  refine (wh_ready n hn (a := 40) (by decide) hx hl m2.1 m2.2).imp (fun q hq => ⟨hq.1, ?_⟩)
  rw [hq.2, wu_rd_go sk hl, k0]
theorem wh_reachW (n : Nat) (hn : 4294967297 < n) {l : Nat} {x1 x2 : Int32} {s z : wt_St} (sk : wu_SK 40 s z) (rz : wt_RI z) (hx : x1.toInt = (l : Int)) (hl : l < 26) : wt_H (wp_tr_reachWithoutLeast n x1 x2 s) (fun q => q.2 = s ∧ (0 ≤ q.1.toInt ∧ q.1.toInt ≤ 1000000) ∧ (0 < x2.toInt → q.1.toInt ≤ 400) ∧ ∀ c : Int, 1 ≤ c → c ≤ 1000000 → (c ≤ q.1.toInt ↔ (x2.toInt ≤ 0 ∨ (x2.toInt < wt_go z 0 l ∧ x2.toInt ≤ wt_go z c l)))) := by
  have k0 : (0 : Int32).toInt = 0 := by decide
  unfold wp_tr_reachWithoutLeast wp_tr_reachWithoutLeast_B20
  refine wt_H_if (fun c => ?_) (fun c => ?_)
  · have c' := wt_cle c
    rw [wu_bind_eta]
    refine (wh_reach n hn (a := 40) (by decide) sk rz hx hl).imp (fun q hq => ⟨hq.1, hq.2.1, hq.2.2.1, fun c c1 c2 => (hq.2.2.2 c c1 c2).trans ⟨fun _ => Or.inl (by omega), fun _ => by have := wt_go_nn (z := z) (l := l) c; omega⟩⟩)
  · have c' := wt_ncle c
    refine wt_H_bh (wh_inCase n hn sk hx hl) (fun q3 h3 => ?_)
    rw [h3.1]
    refine wt_H_if (fun d => ?_) (fun d => ?_)
    · have d' := wt_clt d
      rw [wu_bind_eta]
      refine (wh_reach n hn (a := 40) (by decide) sk rz hx hl).imp (fun q hq => ⟨hq.1, hq.2.1, hq.2.2.1, fun c c1 c2 => (hq.2.2.2 c c1 c2).trans ⟨fun h => Or.inr ⟨by omega, h⟩, fun h => by omega⟩⟩)
    · have d' := wt_ncl d
      exact wt_H_some ⟨rfl, ⟨by show 0 ≤ ((0 : Int32)).toInt; omega, by show ((0 : Int32)).toInt ≤ 1000000; omega⟩, fun _ => by show ((0 : Int32)).toInt ≤ 400; omega, fun c c1 c2 => ⟨fun h => by have h' : c ≤ ((0 : Int32)).toInt := h; omega, fun h => by omega⟩⟩
theorem wh_joined (n : Nat) {x0 x1 x2 : Int32} {s : wt_St} : wt_H (wp_tr_joined n x0 x1 x2 s) (fun q => q.2 = s ∧ (q.1.toInt = x0.toInt ∨ (q.1.toInt ≤ x2.toInt ∧ x0.toInt ≤ q.1.toInt ∧ q.1.toInt ≤ x1.toInt)) ∧ ∀ c : Int, c ≤ q.1.toInt ↔ (c ≤ x0.toInt ∨ (c ≤ x1.toInt ∧ c ≤ x2.toInt))) := by
  unfold wp_tr_joined
  obtain ⟨m, hm⟩ : ∃ m : Int32, m = if x2 < x1 then x2 else x1 := ⟨_, rfl⟩
  rw [← hm]
  have M : (m.toInt = x2.toInt ∧ x2.toInt < x1.toInt) ∨ (m.toInt = x1.toInt ∧ x1.toInt ≤ x2.toInt) := by
    by_cases d : x2 < x1
    · rw [hm, if_pos d]
      exact Or.inl ⟨rfl, wt_clt d⟩
    · rw [hm, if_neg d]
      exact Or.inr ⟨rfl, wt_ncl d⟩
  refine wt_H_some ⟨rfl, ?_⟩
  show ((if x0 < m then m else x0).toInt = x0.toInt ∨ ((if x0 < m then m else x0).toInt ≤ x2.toInt ∧ x0.toInt ≤ (if x0 < m then m else x0).toInt ∧ (if x0 < m then m else x0).toInt ≤ x1.toInt)) ∧ ∀ c : Int, c ≤ (if x0 < m then m else x0).toInt ↔ _
  by_cases d : x0 < m
  · rw [if_pos d]
    have d' := wt_clt d
    exact ⟨Or.inr (by omega), fun c => by omega⟩
  · rw [if_neg d]
    have d' := wt_ncl d
    exact ⟨Or.inl rfl, fun c => by omega⟩
/-- how often a letter will do: as it is, with a piece fewer, with one more, with one for another -/
def wu_TW (q z : wt_St) (N P : Int) (l : Nat) : Prop := (∀ i, 102 ≤ i → i < 106 → (0 ≤ (wt_ga q i l).toInt ∧ (wt_ga q i l).toInt ≤ 1000000) ∧ (0 < N → (wt_ga q i l).toInt ≤ 400)) ∧ ∀ c : Int, 1 ≤ c → c ≤ 1000000 → (c ≤ (wt_ga q 102 l).toInt ↔ N ≤ wt_go z c l) ∧ (c ≤ (wt_ga q 103 l).toInt ↔ (N ≤ 0 ∨ (N < wt_go z 0 l ∧ N ≤ wt_go z c l))) ∧ (c ≤ (wt_ga q 104 l).toInt ↔ (N ≤ wt_go z c l ∨ (N - 1 ≤ wt_go z c l ∧ c ≤ P))) ∧ (c ≤ (wt_ga q 105 l).toInt ↔ ((N ≤ 0 ∨ (N < wt_go z 0 l ∧ N ≤ wt_go z c l)) ∨ ((N - 1 ≤ 0 ∨ (N - 1 < wt_go z 0 l ∧ N - 1 ≤ wt_go z c l)) ∧ c ≤ P)))
theorem wu_TW_eq {q q' z : wt_St} {N P : Int} {l : Nat} (h : wu_TW q z N P l) (e : ∀ i, 102 ≤ i → i < 106 → wt_ga q' i l = wt_ga q i l) : wu_TW q' z N P l := by
  unfold wu_TW
  refine ⟨fun i a b => by rw [e i a b]; exact h.1 i a b, ?_⟩
  rw [e 102 (by omega) (by omega), e 103 (by omega) (by omega), e 104 (by omega) (by omega), e 105 (by omega) (by omega)]
  exact h.2
set_option maxHeartbeats 2000000 in
theorem wh_weigh (n : Nat) (hn : 4294967297 < n) {t l : Nat} {x1 x2 x3 : Int32} {s z : wt_St} (sk : wu_SK 40 s z) (rz : wt_RI z) (h1 : x1.toInt = (t : Int)) (ht : t < 8) (h2 : x2.toInt = (l : Int)) (hl : l < 26) (p0 : 0 ≤ x3.toInt) (p1 : x3.toInt ≤ 400) (nb : 0 ≤ (wt_ga s 37 (26 * t + l)).toInt) : wt_H (wp_tr_weigh n x1 x2 x3 s) (fun q => wt_fr (fun _ _ => False) (fun i => i = 102 ∨ i = 103 ∨ i = 104 ∨ i = 105) s q ∧ (∀ j, j ≠ l → ∀ i, 102 ≤ i → i < 106 → wt_ga q i j = wt_ga s i j) ∧ wu_TW q z (wt_ga s 37 (26 * t + l)).toInt x3.toInt l) := by
  have k1 : (1 : Int32).toInt = 1 := by decide
  have L : ∀ i, 102 ≤ i → i < 106 → wt_ln i = 26 := fun i a b => by rcases (show i = 102 ∨ i = 103 ∨ i = 104 ∨ i = 105 by omega) with h | h | h | h <;> rw [h] <;> decide
  have SK : ∀ q, wt_fr (fun _ _ => False) (fun i => i = 102 ∨ i = 103 ∨ i = 104 ∨ i = 105) s q → wu_SK 40 q z := fun q f => wu_SK_fr sk f (wt_fr.rf (F := fun _ _ => False) (A := fun _ => False)) ⟨by decide, by decide, by decide⟩ ⟨fun h => h, fun h => h, fun h => h⟩
  unfold wp_tr_weigh
  refine wt_H_bh (wh_needOf n hn h1 ht h2 hl) (fun q1 e1 => ?_)
  subst e1
  dsimp only
  obtain ⟨N, hN⟩ : ∃ N : Int32, N = wt_ga s 37 (26 * t + l) := ⟨_, rfl⟩
  rw [← hN] at nb ⊢
  have es := wt_subE (x := N) (y := (1 : Int32)) (by omega) (by have := wt_bd N; omega)
  refine wt_H_bh (wh_reach n hn (a := 40) (by decide) sk rz h2 hl) (fun q2 a2 => ?_)
  obtain ⟨e2, b2, c2, d2⟩ := a2
  rw [e2]
  refine wt_H_bh (wh_reachW n hn sk rz h2 hl) (fun q3 a3 => ?_)
  obtain ⟨e3, b3, c3, d3⟩ := a3
  rw [e3]
  refine wt_H_bh (wh_put n (k := l) h2 (by rw [L 102 (by omega) (by omega)]; exact hl)) (fun q4 ε4 => ?_)
  refine wt_H_bh (wh_put n (k := l) h2 (by rw [L 103 (by omega) (by omega)]; exact hl)) (fun q5 ε5 => ?_)
  have f5 : wt_fr (fun _ _ => False) (fun i => i = 102 ∨ i = 103 ∨ i = 104 ∨ i = 105) s q5 := (wt_fr.rf.sa ε4 (Or.inl rfl)).sa ε5 (Or.inr (Or.inl rfl))
  refine wt_H_bh (wh_reach n hn (a := 40) (by decide) (SK q5 f5) rz h2 hl) (fun q6 a6 => ?_)
  obtain ⟨e6, b6, c6, d6⟩ := a6
  rw [e6]
  refine wt_H_bh (wh_joined n) (fun q7 a7 => ?_)
  obtain ⟨e7, b7, d7⟩ := a7
  rw [e7]
  refine wt_H_bh (wh_put n (k := l) h2 (by rw [L 104 (by omega) (by omega)]; exact hl)) (fun q8 ε8 => ?_)
  have f8 := f5.sa ε8 (Or.inr (Or.inr (Or.inl rfl)))
  refine wt_H_bh (wh_reachW n hn (SK q8 f8) rz h2 hl) (fun q9 a9 => ?_)
  obtain ⟨e9, b9, c9, d9⟩ := a9
  rw [e9]
  refine wt_H_bh (wh_joined n) (fun q10 a10 => ?_)
  obtain ⟨e10, b10, d10⟩ := a10
  rw [e10]
  refine wt_H_bh (wh_put n (k := l) h2 (by rw [L 105 (by omega) (by omega)]; exact hl)) (fun q11 ε11 => ?_)
  have f11 := f8.sa ε11 (Or.inr (Or.inr (Or.inr rfl)))
  have g4 := wt_fr_sa ε4
  have g5 := wt_fr_sa ε5
  have g8 := wt_fr_sa ε8
  have g11 := wt_fr_sa ε11
  have v102 : wt_ga q11 102 l = q2.1 := by rw [g11.2 102 (by decide), g8.2 102 (by decide), g5.2 102 (by decide), wt_v_sa ε4]
  have v103 : wt_ga q11 103 l = q3.1 := by rw [g11.2 103 (by decide), g8.2 103 (by decide), wt_v_sa ε5]
  have v104 : wt_ga q11 104 l = q7.1 := by rw [g11.2 104 (by decide), wt_v_sa ε8]
  have v105 : wt_ga q11 105 l = q10.1 := wt_v_sa ε11
  refine wt_H_some ⟨f11, fun j hj i i1 i2 => ?_, ⟨fun i i1 i2 => ?_, fun c c1 c2' => ?_⟩⟩
  · have h : i = 102 ∨ i = 103 ∨ i = 104 ∨ i = 105 := by omega
    rcases h with h | h | h | h
    · rw [h, g11.2 102 (by decide), g8.2 102 (by decide), g5.2 102 (by decide), wt_w_sa ε4 j hj]
    · rw [h, g11.2 103 (by decide), g8.2 103 (by decide), wt_w_sa ε5 j hj, g4.2 103 (by decide)]
    · rw [h, g11.2 104 (by decide), wt_w_sa ε8 j hj, g5.2 104 (by decide), g4.2 104 (by decide)]
    · rw [h, wt_w_sa ε11 j hj, g8.2 105 (by decide), g5.2 105 (by decide), g4.2 105 (by decide)]
  · have h : i = 102 ∨ i = 103 ∨ i = 104 ∨ i = 105 := by omega
    rcases h with h | h | h | h
    · rw [h, v102]; exact ⟨b2, c2⟩
    · rw [h, v103]; exact ⟨b3, c3⟩
    · rw [h, v104]; exact ⟨by omega, fun hp => by have := c2 hp; omega⟩
    · rw [h, v105]; exact ⟨by omega, fun hp => by have := c3 hp; omega⟩
  · rw [v102, v103, v104, v105]
    have a2 := d2 c c1 c2'
    have a3 := d3 c c1 c2'
    have a6 := d6 c c1 c2'
    have a9 := d9 c c1 c2'
    have a7 := d7 c
    have a10 := d10 c
    rw [es] at a6 a9
    refine ⟨a2, a3, a7.trans ?_, a10.trans ?_⟩
    · rw [a2, a6, k1]
    · rw [a3, a9, k1]
/-- the least of a row of each letter -/
def wu_rwt (x1 x2 : Int32) (l : Nat) : Nat := if (l : Int) = x1.toInt then (if (l : Int) = x2.toInt then 105 else 103) else if (l : Int) = x2.toInt then 104 else 102
set_option maxHeartbeats 1000000 in
theorem wh_leastOfT (n : Nat) (hn : 4294967297 < n) {x1 x2 : Int32} {s : wt_St} (hb : ∀ i l, 102 ≤ i → i < 106 → l < 26 → 0 ≤ (wt_ga s i l).toInt ∧ (wt_ga s i l).toInt ≤ 1000000) : wt_H (wp_tr_leastOf n x1 x2 s) (fun q => q.2 = s ∧ (0 ≤ q.1.toInt ∧ q.1.toInt ≤ 1000000) ∧ ∀ c : Int, c ≤ 1000000 → (c ≤ q.1.toInt ↔ ∀ l : Nat, l < 26 → c ≤ (wt_ga s (wu_rwt x1 x2 l) l).toInt)) := by
  have k0 : (0 : Int32).toInt = 0 := by decide
  have k26 : (26 : Int32).toInt = 26 := by decide
  have kM : (1000000 : Int32).toInt = 1000000 := by decide
  have L : ∀ i, 102 ≤ i → i < 106 → wt_ln i = 26 := fun i a b => by rcases (show i = 102 ∨ i = 103 ∨ i = 104 ∨ i = 105 by omega) with h | h | h | h <;> rw [h] <;> decide
  unfold wp_tr_leastOf
  refine wt_H_it (fun t : Int32 × Int32 × wt_St => t.2.2 = s ∧ (0 ≤ t.2.1.toInt ∧ t.2.1.toInt ≤ 26) ∧ (0 ≤ t.1.toInt ∧ t.1.toInt ≤ 1000000) ∧ ∀ c : Int, c ≤ 1000000 → (c ≤ t.1.toInt ↔ ∀ l : Nat, (l : Int) < t.2.1.toInt → c ≤ (wt_ga s (wu_rwt x1 x2 l) l).toInt)) (fun K t I hK => ?_) n _ ⟨rfl, ⟨by show 0 ≤ ((0 : Int32)).toInt; omega, by show ((0 : Int32)).toInt ≤ 26; omega⟩, ⟨by show 0 ≤ ((1000000 : Int32)).toInt; omega, by show ((1000000 : Int32)).toInt ≤ 1000000; omega⟩, fun c hc => ⟨fun _ l hl => absurd (show (l : Int) < ((0 : Int32)).toInt from hl) (by omega), fun _ => by show c ≤ ((1000000 : Int32)).toInt; omega⟩⟩
  obtain ⟨i0, ⟨i1, i2⟩, i3, i4⟩ := I
  have et := wt_tnI i1
  unfold wp_tr_leastOf_B6
  rw [i0]
  refine wt_H_if (fun c => ?_) (fun c => ?_)
  · have c' := wt_cle c
    exact wt_H_some ⟨rfl, i3, fun c hc => (i4 c hc).trans ⟨fun h l hl => h l (by omega), fun h l hl => h l (by omega)⟩⟩
  · have c' := wt_ncle c
    have ei := wt_i1 (c := t.2.1) (by omega)
    obtain ⟨l, hl⟩ : ∃ l : Nat, l = Int32.toNatClampNeg t.2.1 := ⟨_, rfl⟩
    rw [← hl] at et
    have N : ∀ e : Nat, e = wu_rwt x1 x2 l → ∀ v : Int32, v = wt_ga s e l → (102 ≤ e ∧ e < 106) → wt_H (wp_tr_leastOf_B67 n x1 x2 t.1 t.2.1 v K s) (fun q => q.2 = s ∧ (0 ≤ q.1.toInt ∧ q.1.toInt ≤ 1000000) ∧ ∀ c : Int, c ≤ 1000000 → (c ≤ q.1.toInt ↔ ∀ l : Nat, l < 26 → c ≤ (wt_ga s (wu_rwt x1 x2 l) l).toInt)) := fun e he v hv h6 => by
      unfold wp_tr_leastOf_B67
      have vb := hb e l h6.1 h6.2 (by omega)
      rw [← hv] at vb
      obtain ⟨m, hm⟩ : ∃ m : Int32, m = if v < t.1 then v else t.1 := ⟨_, rfl⟩
      rw [← hm]
      have M : (m.toInt = v.toInt ∧ v.toInt < t.1.toInt) ∨ (m.toInt = t.1.toInt ∧ t.1.toInt ≤ v.toInt) := by
        by_cases d : v < t.1
        · rw [hm, if_pos d]
          exact Or.inl ⟨rfl, wt_clt d⟩
        · rw [hm, if_neg d]
          exact Or.inr ⟨rfl, wt_ncl d⟩
      refine hK _ ⟨rfl, ⟨by show 0 ≤ (t.2.1 + (1 : Int32)).toInt; omega, by show (t.2.1 + (1 : Int32)).toInt ≤ 26; omega⟩, ⟨by show 0 ≤ m.toInt; omega, by show m.toInt ≤ 1000000; omega⟩, fun c hc => ?_⟩
      show c ≤ m.toInt ↔ ∀ l : Nat, (l : Int) < (t.2.1 + (1 : Int32)).toInt → c ≤ (wt_ga s (wu_rwt x1 x2 l) l).toInt
      have a := i4 c hc
      constructor
      · intro h l' hl'
        by_cases x : l' = l
        · rw [x, ← he, ← hv]
          omega
        · exact a.mp (by omega) l' (by omega)
      · intro h
        have b := h l (by omega)
        rw [← he, ← hv] at b
        have d := a.mpr (fun l' hl' => h l' (by omega))
        omega
    have W : ∀ e0, (102 ≤ e0 ∧ e0 < 106) → ((¬ (l : Int) = x1.toInt) → e0 = wu_rwt x1 x2 l) → wt_H (wp_tr_leastOf_B30 n x1 x2 t.1 t.2.1 K e0 s) (fun q => q.2 = s ∧ (0 ≤ q.1.toInt ∧ q.1.toInt ≤ 1000000) ∧ ∀ c : Int, c ≤ 1000000 → (c ≤ q.1.toInt ↔ ∀ l : Nat, l < 26 → c ≤ (wt_ga s (wu_rwt x1 x2 l) l).toInt)) := fun e0 h6 he => by
      unfold wp_tr_leastOf_B30 wp_tr_leastOf_B60
      refine wt_H_bh (wh_look n hn (k := l) et.symm (by rw [L e0 h6.1 h6.2]; omega)) (fun q3 h3 => ?_)
      subst h3
      dsimp only
      refine wt_H_if (fun d => ?_) (fun d => ?_)
      · have d' : (l : Int) = x1.toInt := by rw [← d]; exact et
        refine wt_H_if (fun g => ?_) (fun g => ?_)
        · have g' : (l : Int) = x2.toInt := by rw [← g]; exact et
          refine wt_H_bh (wh_look n hn (k := l) et.symm (by rw [L 105 (by omega) (by omega)]; omega)) (fun q6 h6 => ?_)
          subst h6
          exact N 105 (by unfold wu_rwt; rw [if_pos d', if_pos g']) _ rfl (by omega)
        · have g' : ¬ (l : Int) = x2.toInt := fun h => g (wt_eqI (by omega))
          refine wt_H_bh (wh_look n hn (k := l) et.symm (by rw [L 103 (by omega) (by omega)]; omega)) (fun q6 h6 => ?_)
          subst h6
          exact N 103 (by unfold wu_rwt; rw [if_pos d', if_neg g']) _ rfl (by omega)
      · exact N e0 (he (fun h => d (wt_eqI (by omega)))) _ rfl h6
    refine wt_H_if (fun d => W 104 (by omega) (fun h => ?_)) (fun d => W 102 (by omega) (fun h => ?_))
    · have d' : (l : Int) = x2.toInt := by rw [← d]; exact et
      unfold wu_rwt
      rw [if_neg h, if_pos d']
    · have d' : ¬ (l : Int) = x2.toInt := fun h => d (wt_eqI (by omega))
      unfold wu_rwt
      rw [if_neg h, if_neg d']
/-- two ways to one number -/
theorem wu_same {v y : Int32} {Φ : Int → Prop} (v0 : 0 ≤ v.toInt) (v4 : v.toInt ≤ 400) (hv : ∀ c : Int, 1 ≤ c → c ≤ 1000000 → (c ≤ v.toInt ↔ Φ c)) (y0 : 0 ≤ y.toInt ∧ y.toInt ≤ 400) (y1 : y.toInt = 0 ∨ Φ y.toInt) (y2 : y.toInt = 400 ∨ ¬ Φ (y.toInt + 1)) : v = y := by
  refine wt_eqI ?_
  have lo : y.toInt ≤ v.toInt := by
    rcases y1 with h | h
    · omega
    · by_cases c : y.toInt = 0
      · omega
      · exact (hv _ (by omega) (by omega)).mpr h
  have hi : v.toInt ≤ y.toInt := by
    rcases y2 with h | h
    · omega
    · by_cases c : y.toInt + 1 ≤ v.toInt
      · exact absurd ((hv _ (by omega) (by omega)).mp c) h
      · omega
  omega
end WTQ1
-- 96s.cast.lean.txt
section WTQ2
/-! cast and exchange on both sides -/
theorem wu_go_KV {z y : wt_St} {l : Nat} {c : Int} (h : wu_KV z y) (hl : l < 26) : wt_go y c l = wt_go z c l := by
  unfold wt_go
  rw [h.1]
  refine wt_sum_congr _ (fun k hk => ?_)
  have hk' : (k : Int) < (wt_ga z 111 l).toInt := by
    rcases wt_tn (wt_ga z 111 l) with q | q
    · exfalso
      have := wt_tnle (b := 0) (x := wt_ga z 111 l) (by omega)
      omega
    · omega
  obtain ⟨a, b⟩ := h.2 l k hl hk'
  show wt_gf1 y c (13 * l + k) = wt_gf1 z c (13 * l + k)
  unfold wt_gf1
  rw [a, b]
def wu_plus (l b : Nat) (c P : Int) : Int := if l = b ∧ c ≤ P then 1 else 0
set_option maxHeartbeats 2000000 in
theorem wh_withOneV (n : Nat) (hn : 4294967297 < n) {x1 x2 : Int32} {l : Nat} {z : wt_St} (r : wt_RI z) (m : wt_M12 z) (hx : x1.toInt = (l : Int)) (hl : l < 26) (p2 : 0 ≤ x2.toInt) (p3 : x2.toInt ≤ 400) : wt_H (wp_md_withOne n x1 x2 z) (fun q => (0 ≤ q.1.toInt ∧ q.1.toInt ≤ 400) ∧ (q.1.toInt = 0 ∨ ∀ l' : Nat, l' < 26 → (wt_ga z 287 l').toInt ≤ wt_go z q.1.toInt l' + wu_plus l' l q.1.toInt x2.toInt) ∧ (q.1.toInt = 400 ∨ ¬ ∀ l' : Nat, l' < 26 → (wt_ga z 287 l').toInt ≤ wt_go z (q.1.toInt + 1) l' + wu_plus l' l (q.1.toInt + 1) x2.toInt)) := by
  have ex := wt_tnN hx
  have g : 0 ≤ (wt_ga z 111 l).toInt ∧ (wt_ga z 111 l).toInt ≤ 13 := wt_Ra1 r 111 (show 111 ≤ 111 by omega) (show 111 < 112 by omega) l
  have ml := m l
  have et := wt_tnI g.1
  unfold wp_md_withOne
  rw [ex]
  refine wt_H_gd (fun _ => ?_)
  refine wt_H_bh (wh_cell n (l := l) (i := Int32.toNatClampNeg (wt_ga z 111 l)) hx et.symm hl (by omega)) (fun q2 h2 => ?_)
  obtain ⟨e2, c2⟩ := h2
  rw [e2, wt_tnN c2]
  refine wt_H_gd (fun _ => wt_H_gd (fun _ => wt_H_gd (fun _ => wt_H_gd (fun _ => ?_))))
  obtain ⟨s1, ε1⟩ : ∃ o : wt_St, o = wt_sa z 121 (13 * l + Int32.toNatClampNeg (wt_ga z 111 l)) x2 := ⟨_, rfl⟩
  rw [← ε1]
  have r1 := wt_Rn3 r ε1 (by decide) (by decide) p2 p3
  obtain ⟨s2, ε2⟩ : ∃ o : wt_St, o = wt_sa s1 124 (13 * l + Int32.toNatClampNeg (wt_ga z 111 l)) (-1 : Int32) := ⟨_, rfl⟩
  rw [← ε2]
  have r2 := wt_RI_no r1 ε2 124 125 (by decide +kernel) (by decide) (by decide)
  have f1 := wt_fr_sa ε1
  have f2 := wt_fr_sa ε2
  have e111 : ∀ j, wt_ga s2 111 j = wt_ga z 111 j := fun j => (f2.2 111 (by decide) j).trans (f1.2 111 (by decide) j)
  rw [e111]
  have ei := wt_i1 (c := wt_ga z 111 l) (by omega)
  obtain ⟨s3, ε3⟩ : ∃ o : wt_St, o = wt_sa s2 111 l ((wt_ga z 111 l) + (1 : Int32)) := ⟨_, rfl⟩
  rw [← ε3]
  have f3 := wt_fr_sa ε3
  have r3 := wt_Rn1 r2 ε3 (by decide) (by decide) (show 0 ≤ ((wt_ga z 111 l) + (1 : Int32)).toInt by omega) (show ((wt_ga z 111 l) + (1 : Int32)).toInt ≤ 13 by omega)
  have c121 : ∀ c, c ≠ 13 * l + Int32.toNatClampNeg (wt_ga z 111 l) → wt_ga s3 121 c = wt_ga z 121 c := fun c hc => by rw [f3.2 121 (by decide), f2.2 121 (by decide), wt_w_sa ε1 c hc]
  have c124 : ∀ c, c ≠ 13 * l + Int32.toNatClampNeg (wt_ga z 111 l) → wt_ga s3 124 c = wt_ga z 124 c := fun c hc => by rw [f3.2 124 (by decide), wt_w_sa ε2 c hc, f1.2 124 (by decide)]
  have v121 : wt_ga s3 121 (13 * l + Int32.toNatClampNeg (wt_ga z 111 l)) = x2 := by rw [f3.2 121 (by decide), f2.2 121 (by decide), wt_v_sa ε1]
  have v124 : wt_ga s3 124 (13 * l + Int32.toNatClampNeg (wt_ga z 111 l)) = (-1 : Int32) := by rw [f3.2 124 (by decide), wt_v_sa ε2]
  have e287 : ∀ j, wt_ga s3 287 j = wt_ga z 287 j := fun j => by rw [f3.2 287 (by decide), f2.2 287 (by decide), f1.2 287 (by decide)]
  have GO : ∀ (c : Int) (l' : Nat), wt_go s3 c l' = wt_go z c l' + wu_plus l' l c x2.toInt := fun c l' => by
    unfold wt_go wu_plus
    by_cases h : l' = l
    · rw [h, wt_v_sa ε3, show Int32.toNatClampNeg ((wt_ga z 111 l) + (1 : Int32)) = Int32.toNatClampNeg (wt_ga z 111 l) + 1 by have := wt_tnI (x := (wt_ga z 111 l) + (1 : Int32)) (by omega); omega]
      show wt_sum (fun j => wt_gf1 s3 c (13 * l + j)) (Int32.toNatClampNeg (wt_ga z 111 l)) + wt_gf1 s3 c (13 * l + Int32.toNatClampNeg (wt_ga z 111 l)) = _
      rw [wt_sum_congr (f := fun j => wt_gf1 s3 c (13 * l + j)) (g := fun j => wt_gf1 z c (13 * l + j)) _ (fun k hk => by
        show wt_gf1 s3 c (13 * l + k) = wt_gf1 z c (13 * l + k)
        unfold wt_gf1
        rw [c121 _ (by omega), c124 _ (by omega)])]
      unfold wt_gf1
      rw [v121, v124, wt_lm1]
      by_cases d : c ≤ x2.toInt
      · rw [if_pos (show (-1 : Int) = -1 ∧ c ≤ x2.toInt from ⟨rfl, d⟩), if_pos (show l = l ∧ c ≤ x2.toInt from ⟨rfl, d⟩)]
      · rw [if_neg (fun h : (-1 : Int) = -1 ∧ c ≤ x2.toInt => d h.2), if_neg (fun h : l = l ∧ c ≤ x2.toInt => d h.2)]
    · rw [wt_w_sa ε3 l' h, e111, if_neg (fun q => h q.1), Int.add_zero]
      refine wt_sum_congr _ (fun k hk => ?_)
      have hm := wt_tnle (b := 12) (m l')
      show wt_gf1 s3 c (13 * l' + k) = wt_gf1 z c (13 * l' + k)
      unfold wt_gf1
      rw [c121 _ (by omega), c124 _ (by omega)]
  refine wt_H_bh (wh_oftenM n hn r3) (fun q7 h7 => ?_)
  obtain ⟨-, a1, a2, a3⟩ := h7
  refine wt_H_gd (fun _ => wt_H_gd (fun _ => ?_))
  refine wt_H_some ⟨a1, a2.imp (fun h => h) (fun h l' hl' => ?_), a3.imp (fun h => h) (fun h h' => h (fun l' hl' => ?_))⟩
  · rw [← GO, ← e287]
    exact h l' hl'
  · rw [GO, e287]
    exact h' l' hl'
/-- the class's rows, of every letter -/
def wu_TA (s1 z1 : wt_St) (P : Nat → Int) : Prop := ∀ l : Nat, l < 26 → wu_TW s1 z1 (wt_ga z1 287 l).toInt (P l) l
theorem wu_TA_b {s1 z1 : wt_St} {P : Nat → Int} (h : wu_TA s1 z1 P) : ∀ i l, 102 ≤ i → i < 106 → l < 26 → 0 ≤ (wt_ga s1 i l).toInt ∧ (wt_ga s1 i l).toInt ≤ 1000000 := fun i l a b c => ((h l c).1 i a b).1
theorem wu_rw_b (x1 x2 : Int32) (l : Nat) : 102 ≤ wu_rwt x1 x2 l ∧ wu_rwt x1 x2 l < 106 := by
  unfold wu_rwt
  split
  · split <;> omega
  · split <;> omega
/-- as it is -/
theorem wr_leastNow (n : Nat) (hn : 4294967297 < n) {s1 z1 : wt_St} {P : Nat → Int} (ta : wu_TA s1 z1 P) (rz : wt_RI z1) (ps : ∃ l : Nat, l < 26 ∧ 0 < (wt_ga z1 287 l).toInt) : wt_HH (wp_tr_leastOf n (-1 : Int32) (-1 : Int32) s1) (wp_md_often n z1) (fun q y => q.1 = y.1 ∧ q.2 = s1 ∧ y.2 = z1 ∧ 0 ≤ q.1.toInt) := by
  refine wt_HH_of (wh_leastOfT n hn (wu_TA_b ta)) (wh_oftenM n hn rz) (fun q y hq hy => ?_)
  obtain ⟨e1, b1, b2⟩ := hq
  obtain ⟨e2, d1, d2, d3⟩ := hy
  have R : ∀ l : Nat, wu_rwt (-1 : Int32) (-1 : Int32) l = 102 := fun l => by
    have h : ¬ (l : Int) = ((-1 : Int32)).toInt := fun h => by rw [wt_lm1] at h; omega
    unfold wu_rwt
    rw [if_neg h, if_neg h]
  refine ⟨wu_same (Φ := fun c => ∀ l : Nat, l < 26 → (wt_ga z1 287 l).toInt ≤ wt_go z1 c l) b1.1 ?_ (fun c c1 c2 => (b2 c c2).trans ⟨fun h l hl => ?_, fun h l hl => ?_⟩) d1 d2 d3, e1, e2, b1.1⟩
  · obtain ⟨l, l1, l2⟩ := ps
    have a := (b2 q.1.toInt b1.2).mp (Int.le_refl _) l l1
    have b := ((ta l l1).1 102 (by omega) (by omega)).2 l2
    rw [R] at a
    omega
  · have a := h l hl
    rw [R] at a
    exact ((ta l hl).2 c c1 c2).1.mp a
  · rw [R]
    exact ((ta l hl).2 c c1 c2).1.mpr (h l hl)
/-- the class weighs every letter -/
theorem wt_HH_spec {α β : Type} {p : Option α} {p' : Option β} {Q : α → β → Prop} (P : β → Prop) (h : wt_H p' P) (k : ∀ b, P b → wt_H p (fun a => Q a b)) : wt_HH p p' Q := fun a b e e' => k b (h b e') a e
def wu_fT (s s1 : wt_St) : Prop := wt_fr (fun _ _ => False) (fun i => i = 102 ∨ i = 103 ∨ i = 104 ∨ i = 105) s s1
set_option maxHeartbeats 2000000 in
theorem wr_cast (n : Nat) (hn : 4294967297 < n) {x1 x2 : Int32} {s z : wt_St} (v : wt_IV z) (rl : wu_RL s z) : wt_HH (wp_ap_cast n x1 x2 s) (wp_md_cast n x1 x2 z) (fun q y => (q.1 = 2 ∧ wt_gf y.2 108 0 = 1) ∨ (q.1 = 1 ∧ wt_gf y.2 108 0 = 2) ∨ (q.1 = 0 ∧ wt_gf y.2 108 0 = 0 ∧ q.2.1 = y.1)) := by
  have k0 : (0 : Int32).toInt = 0 := by decide
  have k26 : (26 : Int32).toInt = 26 := by decide
  unfold wp_ap_cast wp_md_cast
  obtain ⟨z0, ε0⟩ : ∃ o : wt_St, o = wt_sf z 108 0 (0 : Int32) := ⟨_, rfl⟩
  rw [← ε0]
  have g0 := wt_fr_sf ε0
  have t0 : wt_gf z0 108 0 = 0 := wt_v_sf ε0
  have r0 : wt_RI z0 := wt_RI_fno v.1 ε0 (Or.inr (by decide +kernel))
  have m0 : wt_M12 z0 := fun j => by rw [g0.2 111 (fun h => h)]; exact v.2.1 j
  obtain ⟨-, -, to, lc, tx, sc, -⟩ := wu_RL_z0 rl v.1 g0
  have sk := wu_SK_of lc sc
  have hz : 0 ≤ (wt_gf z0 108 39).toInt ∧ (wt_gf z0 108 39).toInt ≤ 8 := wt_Rf7 r0
  refine wr_gT n (wp_ap_cast_B16 n x1 x2) (wp_md_cast_B19 n x1 x2) tx.1 hz (wr_mb1 n t0 (by decide) (Or.inl ⟨rfl, wt_v_sf rfl⟩)) (fun hx0 hx1 => wr_mb0 n t0 (wr_gC n (wp_md_cast_B39 n x1 x2) (wh_b1 n t0 (by decide) (Or.inr (Or.inl ⟨rfl, wt_v_sf rfl⟩))) (fun c1 c2 => wr_b0 n t0 ?_)))
  have et := wt_tnI hx0
  have X := tx.2 (Int32.toNatClampNeg x1) (by omega)
  obtain ⟨lp, lp1, lp2⟩ := wu_nt_pos to X
  obtain ⟨-, -, -, -, -, -, tn6⟩ := X
  refine wt_HH_lm (P := fun a b => a.1 = b.1 ∧ wt_gf b.2 108 0 = 0) ?_ (fun a b h => Or.inr (Or.inr ⟨rfl, h.2, h.1⟩))
  refine wt_HH_r (wq_md_needsText n hn x1 z0 r0 hx0 (by omega)).h (fun z1 h1 => ?_)
  obtain ⟨fn, r1, nb, nd⟩ := h1
  have sk1 : wu_SK 40 s z1 := wu_SK_fr sk (wt_fr.rf (F := fun _ _ => False) (A := fun _ => False)) fn ⟨fun h => h, fun h => h, fun h => h⟩ ⟨by decide, by decide, by decide⟩
  have m1 : wt_M12 z1 := fun j => by rw [fn.2 111 (by decide)]; exact m0 j
  have ndS : ∀ l : Nat, l < 26 → (wt_ga s 37 (26 * Int32.toNatClampNeg x1 + l)).toInt = (wt_ga z1 287 l).toInt := fun l hl => by rw [tn6 l hl, nd l hl]
  have ps : ∃ l : Nat, l < 26 ∧ 0 < (wt_ga z1 287 l).toInt := ⟨lp, lp1, by rw [nd lp lp1]; exact lp2⟩
  unfold wp_tr_bestCast
  refine wt_HH_itl (fun t : Int32 × wt_St => (0 ≤ t.1.toInt ∧ t.1.toInt ≤ 26) ∧ wu_fT s t.2 ∧ ∀ l : Nat, (l : Int) < t.1.toInt → wu_TW t.2 z1 (wt_ga z1 287 l).toInt x2.toInt l) (fun K t I hK => ?_) n _ ⟨⟨by show 0 ≤ ((0 : Int32)).toInt; omega, by show ((0 : Int32)).toInt ≤ 26; omega⟩, wt_fr.rf, fun l hl => absurd (show (l : Int) < ((0 : Int32)).toInt from hl) (by omega)⟩
  obtain ⟨⟨i0, i1⟩, ft, i2⟩ := I
  have eti := wt_tnI i0
  have skt : wu_SK 40 t.2 z1 := wu_SK_fr sk1 ft (wt_fr.rf (F := fun _ _ => False) (A := fun _ => False)) ⟨by decide, by decide, by decide⟩ ⟨fun h => h, fun h => h, fun h => h⟩
  unfold wp_tr_bestCast_B2
  refine wt_HH_il (fun c => ?_) (fun c => ?_)
  · have c' := wt_cle c
    have ta : wu_TA t.2 z1 (fun _ => x2.toInt) := fun l hl => i2 l (by omega)
    refine wt_HH_b (wr_leastNow n hn ta r1 ps) (fun q2 y2 h => ?_)
    obtain ⟨e1, e2, e3, e4⟩ := h
    rw [e1, e2, e3]
    refine wt_HH_it (fun (p r : Int32 × Int32 × Int32 × wt_St) => (p.1 = r.1 ∧ p.2.1 = r.2.1 ∧ p.2.2.1 = r.2.2.1 ∧ p.2.2.2 = t.2) ∧ (0 ≤ r.2.2.1.toInt ∧ r.2.2.1.toInt ≤ 26) ∧ (wt_RI r.2.2.2 ∧ wt_M12 r.2.2.2) ∧ wu_KV z1 r.2.2.2 ∧ wt_fr (fun _ _ => False) (fun i => i = 121 ∨ i = 124 ∨ i = 111) z1 r.2.2.2) (fun KA KB p r J hK2 => ?_) n n _ _ ⟨⟨rfl, rfl, rfl, rfl⟩, ⟨by show 0 ≤ ((0 : Int32)).toInt; omega, by show ((0 : Int32)).toInt ≤ 26; omega⟩, ⟨r1, m1⟩, wu_KV_rf z1, wt_fr.rf⟩
    obtain ⟨⟨j1, j2, j3, j4⟩, ⟨j5, j6⟩, ⟨rr, mr⟩, kv, fr⟩ := J
    have er := wt_tnI j5
    unfold wp_tr_bestCast_B34 wp_md_cast_B64 wp_tr_bestCast_B63 wp_md_cast_B96
    rw [j1, j2, j3, j4]
    by_cases d : (26 : Int32) ≤ r.2.2.1
    · rw [if_pos d, if_pos d]
      refine wt_HH_some ⟨rfl, ?_⟩
      show wt_gf r.2.2.2 108 0 = 0
      rw [fr.1 108 0 (fun h => h), fn.1 108 0 (fun h => h)]
      exact t0
    · rw [if_neg d, if_neg d]
      have d' := wt_ncle d
      have ei := wt_i1 (c := r.2.2.1) (by omega)
      obtain ⟨b, hb⟩ : ∃ b : Nat, b = Int32.toNatClampNeg r.2.2.1 := ⟨_, rfl⟩
      rw [← hb] at er
      have S : wt_HH (wp_tr_leastOf n (-1 : Int32) r.2.2.1 t.2) (wp_md_withOne n r.2.2.1 x2 r.2.2.2) (fun q y => (q.1 = y.1 ∧ q.2 = t.2) ∧ (wt_RI y.2 ∧ wt_M12 y.2) ∧ wu_KV z1 y.2 ∧ wt_fr (fun _ _ => False) (fun i => i = 121 ∨ i = 124 ∨ i = 111) z1 y.2) := by
        refine wt_HH_of (wh_leastOfT n hn (wu_TA_b ta)) (wt_H_and (wh_withOneV n hn rr mr er.symm (by omega) (by omega) c2) (wt_H_and (wh_withOneR n hn rr mr er.symm (by omega) (by omega) c2) (wq_md_withOne n hn r.2.2.1 x2 r.2.2.2 rr mr j5 (by omega) (by omega) c2).h)) (fun q y hq hy => ?_)
        obtain ⟨a1, a2, a3⟩ := hq
        obtain ⟨⟨d1, d2, d3⟩, ⟨⟨d4, d5⟩, d6, d7⟩, d8, -, -⟩ := hy
        have RW : ∀ l : Nat, wu_rwt (-1 : Int32) r.2.2.1 l = if l = b then 104 else 102 := fun l => by
          have h : ¬ (l : Int) = ((-1 : Int32)).toInt := fun h => by rw [wt_lm1] at h; omega
          unfold wu_rwt
          rw [if_neg h]
          by_cases x : l = b
          · rw [if_pos x, if_pos (by omega)]
          · rw [if_neg x, if_neg (by omega)]
        have e287 : ∀ l, wt_ga r.2.2.2 287 l = wt_ga z1 287 l := fr.2 287 (by decide)
        have key : ∀ (c : Int) (l : Nat), 1 ≤ c → c ≤ 1000000 → l < 26 → (c ≤ (wt_ga t.2 (wu_rwt (-1 : Int32) r.2.2.1 l) l).toInt ↔ (wt_ga r.2.2.2 287 l).toInt ≤ wt_go r.2.2.2 c l + wu_plus l b c x2.toInt) := fun c l c1 c2 hl => by
          rw [RW, e287, wu_go_KV kv hl]
          obtain ⟨w1, -, w3, -⟩ := (ta l hl).2 c c1 c2
          unfold wu_plus
          by_cases x : l = b
          · rw [if_pos x, w3]
            by_cases y : c ≤ x2.toInt
            · rw [if_pos ⟨x, y⟩]
              show (_ ≤ _ ∨ (_ ∧ c ≤ x2.toInt)) ↔ _
              omega
            · rw [if_neg (fun h => y h.2)]
              show (_ ≤ _ ∨ (_ ∧ c ≤ x2.toInt)) ↔ _
              omega
          · rw [if_neg x, if_neg (fun h => x h.1), w1]
            omega
        refine ⟨⟨wu_same (Φ := fun c => ∀ l : Nat, l < 26 → (wt_ga r.2.2.2 287 l).toInt ≤ wt_go r.2.2.2 c l + wu_plus l b c x2.toInt) a2.1 ?_ (fun c c1 c2 => (a3 c c2).trans ⟨fun h l hl => (key c l c1 c2 hl).mp (h l hl), fun h l hl => (key c l c1 c2 hl).mpr (h l hl)⟩) d1 d2 d3, a1⟩, ⟨d4, d5⟩, ?_, fr.tr d8 (fun _ _ h => h) (fun _ h => h)⟩
        · obtain ⟨l, l1, l2⟩ := ps
          have w := (a3 q.1.toInt a2.2).mp (Int.le_refl _) l l1
          have rb := wu_rw_b (-1 : Int32) r.2.2.1 l
          have w2 := ((ta l l1).1 _ rb.1 rb.2).2 l2
          omega
        · refine ⟨fun j => (d6 j).trans (kv.1 j), fun l i hl hi => ?_⟩
          have gl : 0 ≤ (wt_ga r.2.2.2 111 b).toInt ∧ (wt_ga r.2.2.2 111 b).toInt ≤ 13 := wt_Ra1 rr 111 (show 111 ≤ 111 by omega) (show 111 < 112 by omega) b
          have el := wt_tnI gl.1
          have ml := mr b
          have mz := m1 l
          have ev := congrArg Int32.toInt (kv.1 b)
          have nc : 13 * l + i ≠ 13 * b + Int32.toNatClampNeg (wt_ga r.2.2.2 111 b) := fun h => by
            have hll : l = b := by omega
            rw [← hll] at ev h el
            omega
          obtain ⟨p1, p2⟩ := d7 _ nc
          exact ⟨p1.trans (kv.2 l i hl hi).1, p2.trans (kv.2 l i hl hi).2⟩
      refine wt_HH_b S (fun q y h => ?_)
      obtain ⟨⟨h1, h2⟩, h3, h4, h5⟩ := h
      rw [h1, h2]
      have B : ∀ a c : Int32, wt_HH (KA (a, c, (r.2.2.1 + (1 : Int32)), t.2)) (KB (a, c, (r.2.2.1 + (1 : Int32)), y.2)) (fun a b => a.1 = b.1 ∧ wt_gf b.2 108 0 = 0) := fun a c => hK2 _ _ ⟨⟨rfl, rfl, rfl, rfl⟩, ⟨by show 0 ≤ (r.2.2.1 + (1 : Int32)).toInt; omega, by show (r.2.2.1 + (1 : Int32)).toInt ≤ 26; omega⟩, h3, h4, h5⟩
      by_cases x : y.1 ≤ r.1
      · rw [if_pos x, if_neg (show ¬ r.1 < y.1 from fun h => by have := wt_clt h; have := wt_cle x; omega)]
        exact B _ _
      · rw [if_neg x, if_pos (show r.1 < y.1 from Int32.lt_iff_toInt_lt.mpr (by have := wt_ncle x; omega))]
        exact B _ _
  · have c' := wt_ncle c
    have ei := wt_i1 (c := t.1) (by omega)
    have e37 : ∀ j, wt_ga t.2 37 j = wt_ga s 37 j := ft.2 37 (by decide)
    have nl := ndS (Int32.toNatClampNeg t.1) (by omega)
    refine wt_HH_l (wh_weigh n hn (t := Int32.toNatClampNeg x1) (l := Int32.toNatClampNeg t.1) skt r1 et.symm (by omega) eti.symm (by omega) (by omega) c2 (by rw [e37, nl]; exact nb.1 _ (by omega))) (fun q6 h6 => ?_)
    obtain ⟨f6, o6, w6⟩ := h6
    rw [e37, nl] at w6
    refine hK _ ⟨⟨by show 0 ≤ (t.1 + (1 : Int32)).toInt; omega, by show (t.1 + (1 : Int32)).toInt ≤ 26; omega⟩, wt_fr.tr ft f6 (fun _ _ h => h) (fun _ h => h), fun l hl => ?_⟩
    have hl' : (l : Int) < (t.1 + (1 : Int32)).toInt := hl
    show wu_TW q6 z1 (wt_ga z1 287 l).toInt x2.toInt l
    by_cases x : l = Int32.toNatClampNeg t.1
    · rw [x]
      exact w6
    · exact wu_TW_eq (i2 l (by omega)) (fun i a b => o6 l x i a b)
end WTQ2
-- 96u.together.lean.txt
section WTQ3
/-! together: the class counts, the reference takes -/
noncomputable def wu_on (x : Int32) : Nat → Int32
  | 0 => 0
  | k + 1 => wu_on x k + ((x >>> (nI k &&& 31)) &&& (1 : Int32))
theorem wh_ones (n : Nat) {x : Int32} {z : wt_St} : wt_H (wp_md_ones n x z) (fun q => q = (wu_on x 16, z)) := by
  have k0 : (0 : Int32).toInt = 0 := by decide
  have k16 : (16 : Int32).toInt = 16 := by decide
  unfold wp_md_ones
  refine wt_H_it (fun t : Int32 × Int32 × wt_St => t.2.2 = z ∧ (0 ≤ t.2.1.toInt ∧ t.2.1.toInt ≤ 16) ∧ t.1 = wu_on x (Int32.toNatClampNeg t.2.1)) (fun K t I hK => ?_) n _ ⟨rfl, ⟨by show 0 ≤ ((0 : Int32)).toInt; omega, by show ((0 : Int32)).toInt ≤ 16; omega⟩, by show (0 : Int32) = wu_on x (Int32.toNatClampNeg (0 : Int32)); rw [wt_tn0]; rfl⟩
  obtain ⟨i0, ⟨i1, i2⟩, i3⟩ := I
  have et := wt_tnI i1
  unfold wp_md_ones_B4
  rw [i0]
  refine wt_H_if (fun c => ?_) (fun c => ?_)
  · have c' := wt_cle c
    refine wt_H_some ?_
    rw [i3, show Int32.toNatClampNeg t.2.1 = 16 by omega]
  · have c' := wt_ncle c
    have ei := wt_i1 (c := t.2.1) (by omega)
    have en : Int32.toNatClampNeg (t.2.1 + (1 : Int32)) = Int32.toNatClampNeg t.2.1 + 1 := by have := wt_tnI (x := t.2.1 + (1 : Int32)) (by omega); omega
    refine hK _ ⟨rfl, ⟨by show 0 ≤ (t.2.1 + (1 : Int32)).toInt; omega, by show (t.2.1 + (1 : Int32)).toInt ≤ 16; omega⟩, ?_⟩
    show t.1 + ((x >>> (t.2.1 &&& 31)) &&& (1 : Int32)) = wu_on x (Int32.toNatClampNeg (t.2.1 + (1 : Int32)))
    rw [en, i3]
    show wu_on x (Int32.toNatClampNeg t.2.1) + ((x >>> (t.2.1 &&& 31)) &&& (1 : Int32)) = wu_on x (Int32.toNatClampNeg t.2.1) + ((x >>> (nI (Int32.toNatClampNeg t.2.1) &&& 31)) &&& (1 : Int32))
    rw [← wt_nIt i1]
def wu_bc (x0 : Int32) : Int32 := ((((((((x0 - ((wt_ush x0 (1 : Int32)) &&& (1431655765 : Int32))) &&& (858993459 : Int32)) + ((wt_ush (x0 - ((wt_ush x0 (1 : Int32)) &&& (1431655765 : Int32))) (2 : Int32)) &&& (858993459 : Int32))) + (wt_ush (((x0 - ((wt_ush x0 (1 : Int32)) &&& (1431655765 : Int32))) &&& (858993459 : Int32)) + ((wt_ush (x0 - ((wt_ush x0 (1 : Int32)) &&& (1431655765 : Int32))) (2 : Int32)) &&& (858993459 : Int32))) (4 : Int32))) &&& (252645135 : Int32)) + (wt_ush (((((x0 - ((wt_ush x0 (1 : Int32)) &&& (1431655765 : Int32))) &&& (858993459 : Int32)) + ((wt_ush (x0 - ((wt_ush x0 (1 : Int32)) &&& (1431655765 : Int32))) (2 : Int32)) &&& (858993459 : Int32))) + (wt_ush (((x0 - ((wt_ush x0 (1 : Int32)) &&& (1431655765 : Int32))) &&& (858993459 : Int32)) + ((wt_ush (x0 - ((wt_ush x0 (1 : Int32)) &&& (1431655765 : Int32))) (2 : Int32)) &&& (858993459 : Int32))) (4 : Int32))) &&& (252645135 : Int32)) (8 : Int32))) + (wt_ush ((((((x0 - ((wt_ush x0 (1 : Int32)) &&& (1431655765 : Int32))) &&& (858993459 : Int32)) + ((wt_ush (x0 - ((wt_ush x0 (1 : Int32)) &&& (1431655765 : Int32))) (2 : Int32)) &&& (858993459 : Int32))) + (wt_ush (((x0 - ((wt_ush x0 (1 : Int32)) &&& (1431655765 : Int32))) &&& (858993459 : Int32)) + ((wt_ush (x0 - ((wt_ush x0 (1 : Int32)) &&& (1431655765 : Int32))) (2 : Int32)) &&& (858993459 : Int32))) (4 : Int32))) &&& (252645135 : Int32)) + (wt_ush (((((x0 - ((wt_ush x0 (1 : Int32)) &&& (1431655765 : Int32))) &&& (858993459 : Int32)) + ((wt_ush (x0 - ((wt_ush x0 (1 : Int32)) &&& (1431655765 : Int32))) (2 : Int32)) &&& (858993459 : Int32))) + (wt_ush (((x0 - ((wt_ush x0 (1 : Int32)) &&& (1431655765 : Int32))) &&& (858993459 : Int32)) + ((wt_ush (x0 - ((wt_ush x0 (1 : Int32)) &&& (1431655765 : Int32))) (2 : Int32)) &&& (858993459 : Int32))) (4 : Int32))) &&& (252645135 : Int32)) (8 : Int32))) (16 : Int32))) &&& (63 : Int32))
theorem wh_bitCount (n : Nat) {x : Int32} {s : wt_St} : wt_H (wp_jl_bitCount n x s) (fun q => q = (wu_bc x, s)) := by
  unfold wp_jl_bitCount
  exact wt_H_some rfl
set_option maxRecDepth 100000 in
theorem wu_bc_on0 : ∀ j, j < 256 → wu_bc (nI j) = wu_on (nI j) 16 := by decide +kernel
theorem wu_bc_on {x : Int32} (h0 : 0 ≤ x.toInt) (h1 : x.toInt < 256) : wu_bc x = wu_on x 16 := by
  have e := wt_tnI h0
  rw [wt_nIt h0]
  exact wu_bc_on0 _ (by omega)
theorem wu_pow : ∀ T, T < 9 → 1 ≤ ((1 : Int32) <<< (nI T &&& 31)).toInt ∧ ((1 : Int32) <<< (nI T &&& 31)).toInt ≤ 256 := by decide +kernel
/-- what a set of texts needs of a letter -/
def wu_sm (N : Nat → Nat → Int) (x : Int32) (l : Nat) : Nat → Int := wt_sum (fun t => if wu_bb x t = true then N t l else 0)
theorem wh_standAt (n : Nat) (hn : 4294967297 < n) {T : Nat} {x1 : Int32} {s : wt_St} {N : Nat → Nat → Int} (hT : (wt_gf s 34 4).toInt = (T : Int)) (h8 : T ≤ 8) (hN : ∀ t l, t < T → l < 26 → (wt_ga s 37 (26 * t + l)).toInt = N t l ∧ 0 ≤ N t l ∧ N t l ≤ 108) : wt_H (wp_tr_standAtOnce n x1 s) (fun q => q.2 = s ∧ ((q.1 = 1 ∧ ∀ l : Nat, l < 26 → wu_sm N x1 l T ≤ (wt_ga s 106 l).toInt) ∨ (q.1 = 0 ∧ ¬ ∀ l : Nat, l < 26 → wu_sm N x1 l T ≤ (wt_ga s 106 l).toInt))) := by
  have k0 : (0 : Int32).toInt = 0 := by decide
  have k26 : (26 : Int32).toInt = 26 := by decide
  unfold wp_tr_standAtOnce
  refine wt_H_it (fun t : Int32 × wt_St => t.2 = s ∧ (0 ≤ t.1.toInt ∧ t.1.toInt ≤ 26) ∧ ∀ l : Nat, (l : Int) < t.1.toInt → wu_sm N x1 l T ≤ (wt_ga s 106 l).toInt) (fun K t I hK => ?_) n _ ⟨rfl, ⟨by show 0 ≤ ((0 : Int32)).toInt; omega, by show ((0 : Int32)).toInt ≤ 26; omega⟩, fun l hl => absurd (show (l : Int) < ((0 : Int32)).toInt from hl) (by omega)⟩
  obtain ⟨i0, ⟨i1, i2⟩, i3⟩ := I
  have et := wt_tnI i1
  unfold wp_tr_standAtOnce_B2
  rw [i0]
  refine wt_H_if (fun c => ?_) (fun c => ?_)
  · have c' := wt_cle c
    exact wt_H_some ⟨rfl, Or.inl ⟨rfl, fun l hl => i3 l (by omega)⟩⟩
  · have c' := wt_ncle c
    have ei := wt_i1 (c := t.1) (by omega)
    obtain ⟨l, hl⟩ : ∃ l : Nat, l = Int32.toNatClampNeg t.1 := ⟨_, rfl⟩
    rw [← hl] at et
    refine wt_H_it (fun u : Int32 × Int32 × wt_St => u.2.2 = s ∧ (0 ≤ u.2.1.toInt ∧ u.2.1.toInt ≤ (T : Int)) ∧ u.1.toInt = wu_sm N x1 l (Int32.toNatClampNeg u.2.1)) (fun K2 u J hK2 => ?_) n _ ⟨rfl, ⟨by show 0 ≤ ((0 : Int32)).toInt; omega, by show ((0 : Int32)).toInt ≤ _; omega⟩, by show ((0 : Int32)).toInt = wu_sm N x1 l (Int32.toNatClampNeg (0 : Int32)); rw [wt_tn0, k0]; rfl⟩
    obtain ⟨j0, ⟨j1, j2⟩, j3⟩ := J
    have eu := wt_tnI j1
    unfold wp_tr_standAtOnce_B16
    rw [j0, ← hl]
    refine wt_H_if (fun d => ?_) (fun d => ?_)
    · have d' := wt_cle d
      have eT : Int32.toNatClampNeg u.2.1 = T := by omega
      rw [eT] at j3
      refine wt_H_gd (fun _ => wt_H_if (fun g => ?_) (fun g => ?_))
      · have g' := wt_cle g
        refine hK _ ⟨rfl, ⟨by show 0 ≤ (t.1 + (1 : Int32)).toInt; omega, by show (t.1 + (1 : Int32)).toInt ≤ 26; omega⟩, fun l' hl' => ?_⟩
        have hl2 : (l' : Int) < (t.1 + (1 : Int32)).toInt := hl'
        by_cases x : l' = l
        · rw [x, ← j3]
          exact g'
        · exact i3 l' (by omega)
      · have g' := wt_ncle g
        exact wt_H_some ⟨rfl, Or.inr ⟨rfl, fun h => by have := h l (by omega); omega⟩⟩
    · have d' := wt_ncle d
      have eui := wt_i1 (c := u.2.1) (by omega)
      have en : Int32.toNatClampNeg (u.2.1 + (1 : Int32)) = Int32.toNatClampNeg u.2.1 + 1 := by have := wt_tnI (x := u.2.1 + (1 : Int32)) (by omega); omega
      obtain ⟨n1, n2, n3⟩ := hN (Int32.toNatClampNeg u.2.1) l (by omega) (by omega)
      have sb := wt_sum_bd (f := fun t => if wu_bb x1 t = true then N t l else 0) (c := 108) (Int32.toNatClampNeg u.2.1) (fun k hk => by
        obtain ⟨-, a, b⟩ := hN k l (by omega) (by omega)
        show 0 ≤ (if wu_bb x1 k = true then N k l else 0) ∧ (if wu_bb x1 k = true then N k l else 0) ≤ 108
        split <;> omega)
      have sb' : 0 ≤ u.1.toInt ∧ u.1.toInt ≤ 108 * (Int32.toNatClampNeg u.2.1 : Int) := by rw [j3]; exact sb
      have ek : u.2.1 = nI (Int32.toNatClampNeg u.2.1) := wt_nIt j1
      have B : ∀ y : Int32, y.toInt = (if wu_bb x1 (Int32.toNatClampNeg u.2.1) = true then N (Int32.toNatClampNeg u.2.1) l else 0) → wt_H (wp_tr_standAtOnce_B53 n x1 t.1 u.2.1 K K2 u.1 y s) (fun q => q.2 = s ∧ ((q.1 = 1 ∧ ∀ l : Nat, l < 26 → wu_sm N x1 l T ≤ (wt_ga s 106 l).toInt) ∨ (q.1 = 0 ∧ ¬ ∀ l : Nat, l < 26 → wu_sm N x1 l T ≤ (wt_ga s 106 l).toInt))) := fun y hy => by
        have yb : 0 ≤ y.toInt ∧ y.toInt ≤ 108 := by
          rw [hy]
          split <;> omega
        have ea := wt_addE (x := u.1) (y := y) (by omega) (by omega)
        unfold wp_tr_standAtOnce_B53
        refine hK2 _ ⟨rfl, ⟨by show 0 ≤ (u.2.1 + (1 : Int32)).toInt; omega, by show (u.2.1 + (1 : Int32)).toInt ≤ _; omega⟩, ?_⟩
        show (u.1 + y).toInt = wu_sm N x1 l (Int32.toNatClampNeg (u.2.1 + (1 : Int32)))
        rw [en, ea, j3, hy]
        rfl
      by_cases hb : wu_bt x1 u.2.1
      · rw [if_neg (show ¬ ((x1 >>> (u.2.1 &&& 31)) &&& (1 : Int32)) = (1 : Int32) from fun e => by
          have d' : ((x1 >>> (u.2.1 &&& (31 : Int32))) &&& (1 : Int32)) = 0 := hb
          rw [d'] at e
          exact absurd e (by decide))]
        rw [ek] at hb
        exact B 0 (by rw [(wu_bt_bb (by omega)).mp hb, if_neg (by decide)]; exact k0)
      · have d2 : ¬ wu_bt x1 (nI (Int32.toNatClampNeg u.2.1)) := by rw [← ek]; exact hb
        have d3 := wu_bt_1 (by omega) d2
        rw [← ek] at d3
        rw [if_pos d3]
        refine wt_H_bh (wh_needOf n hn (t := Int32.toNatClampNeg u.2.1) (l := l) eu.symm (by omega) et.symm (by omega)) (fun q6 h6 => ?_)
        subst h6
        refine B _ ?_
        have hb1 : wu_bb x1 (Int32.toNatClampNeg u.2.1) = true := by
          cases hb1 : wu_bb x1 (Int32.toNatClampNeg u.2.1)
          · exact absurd ((wu_bt_bb (by omega)).mpr hb1) d2
          · rfl
        rw [hb1, if_pos rfl]
        exact n1
/-- a row of pieces is taken: so many fewer are good -/
theorem wh_nextPieceG (n : Nat) {l : Nat} {x1 x2 : Int32} {z : wt_St} (m : wt_M12 z) (hx : x1.toInt = (l : Int)) (hl : l < 26) : wt_H (wp_md_nextPiece n x1 x2 z) (fun q => q.2 = z ∧ (q.1 = (-1 : Int32) ∨ ∃ i : Nat, (i : Int) < (wt_ga z 111 l).toInt ∧ q.1.toInt = ((13 * l + i : Nat) : Int) ∧ (wt_ga z 124 (13 * l + i)).toInt = -1 ∧ x2.toInt ≤ (wt_ga z 121 (13 * l + i)).toInt)) := by
  have k0 : (0 : Int32).toInt = 0 := by decide
  have ex := wt_tnN hx
  have ml := m l
  unfold wp_md_nextPiece
  refine wt_H_it (fun t : Int32 × Int32 × wt_St => t.2.2 = z ∧ 0 ≤ t.2.1.toInt ∧ (t.1 = (-1 : Int32) ∨ ∃ i : Nat, (i : Int) < (wt_ga z 111 l).toInt ∧ t.1.toInt = ((13 * l + i : Nat) : Int) ∧ (wt_ga z 124 (13 * l + i)).toInt = -1 ∧ x2.toInt ≤ (wt_ga z 121 (13 * l + i)).toInt)) (fun K t I hK => ?_) n _ ⟨rfl, by show 0 ≤ ((0 : Int32)).toInt; omega, Or.inl rfl⟩
  obtain ⟨i0, i1, i2⟩ := I
  have et := wt_tnI i1
  unfold wp_md_nextPiece_B5
  rw [i0, ex]
  refine wt_H_gd (fun _ => wt_H_if (fun _ => wt_H_some ⟨rfl, i2⟩) (fun c => ?_))
  have c' := wt_ncle c
  have ei := wt_i1 (c := t.2.1) (by omega)
  refine wt_H_bh (wh_cell n (l := l) (i := Int32.toNatClampNeg t.2.1) hx et.symm hl (by omega)) (fun q3 h3 => ?_)
  obtain ⟨e3, c3⟩ := h3
  rw [e3, wt_tnN c3]
  unfold wp_md_nextPiece_B96 wp_md_nextPiece_B99
  have S : wt_H (K (t.1, (t.2.1 + (1 : Int32)), z)) (fun q => q.2 = z ∧ (q.1 = (-1 : Int32) ∨ ∃ i : Nat, (i : Int) < (wt_ga z 111 l).toInt ∧ q.1.toInt = ((13 * l + i : Nat) : Int) ∧ (wt_ga z 124 (13 * l + i)).toInt = -1 ∧ x2.toInt ≤ (wt_ga z 121 (13 * l + i)).toInt)) := hK _ ⟨rfl, by show 0 ≤ (t.2.1 + (1 : Int32)).toInt; omega, i2⟩
  refine wt_H_gd (fun _ => wt_H_if (fun o => wt_H_gd (fun _ => wt_H_if (fun y => ?_) (fun _ => S))) (fun _ => S))
  have O : wt_H (K (q3.1, (t.2.1 + (1 : Int32)), z)) (fun q => q.2 = z ∧ (q.1 = (-1 : Int32) ∨ ∃ i : Nat, (i : Int) < (wt_ga z 111 l).toInt ∧ q.1.toInt = ((13 * l + i : Nat) : Int) ∧ (wt_ga z 124 (13 * l + i)).toInt = -1 ∧ x2.toInt ≤ (wt_ga z 121 (13 * l + i)).toInt)) := hK _ ⟨rfl, by show 0 ≤ (t.2.1 + (1 : Int32)).toInt; omega, Or.inr ⟨Int32.toNatClampNeg t.2.1, by omega, c3, (wt_ceq o).trans wt_lm1, wt_cle y⟩⟩
  refine wt_H_if (fun _ => O) (fun _ => ?_)
  exact wt_H_if (fun _ => wt_H_gd (fun _ => wt_H_gd (fun _ => wt_H_if (fun _ => S) (fun _ => O)))) (fun _ => wt_H_gd (fun _ => wt_H_gd (fun _ => wt_H_if (fun _ => S) (fun _ => O))))
/-- how a piece taken lowers the count -/
theorem wu_go_off {z z1 : wt_St} {a i : Nat} {c : Int} (m : wt_M12 z) (f : ∀ j, j ≠ 13 * a + i → wt_ga z1 124 j = wt_ga z 124 j) (v : wt_ga z1 124 (13 * a + i) = (4 : Int32)) (e121 : ∀ j, wt_ga z1 121 j = wt_ga z 121 j) (e111 : ∀ j, wt_ga z1 111 j = wt_ga z 111 j) (hi : (i : Int) < (wt_ga z 111 a).toInt) (on : (wt_ga z 124 (13 * a + i)).toInt = -1) (hc : c ≤ (wt_ga z 121 (13 * a + i)).toInt) : wt_go z1 c a = wt_go z c a - 1 ∧ ∀ l, l ≠ a → wt_go z1 c l = wt_go z c l := by
  have k4 : (4 : Int32).toInt = 4 := by decide
  have ha := wt_tnI (x := wt_ga z 111 a) (by omega)
  have ma := m a
  refine ⟨?_, fun l hl => ?_⟩
  · unfold wt_go
    rw [e111]
    have := wt_sum_pt (f := fun k => wt_gf1 z c (13 * a + k)) (g := fun k => wt_gf1 z1 c (13 * a + k)) (j := i) (d := -1) (Int32.toNatClampNeg (wt_ga z 111 a)) (fun k _ hn => by
      show wt_gf1 z1 c (13 * a + k) = wt_gf1 z c (13 * a + k)
      unfold wt_gf1
      rw [f _ (by omega), e121]) (by omega) (by
      show wt_gf1 z1 c (13 * a + i) = wt_gf1 z c (13 * a + i) + -1
      have e1 : wt_gf1 z c (13 * a + i) = 1 := if_pos ⟨on, hc⟩
      have e2 : wt_gf1 z1 c (13 * a + i) = 0 := if_neg (fun h => by rw [v, k4] at h; omega)
      rw [e1, e2]
      rfl)
    omega
  · unfold wt_go
    rw [e111]
    have ml := wt_tnle (b := 12) (m l)
    refine wt_sum_congr _ (fun k hk => ?_)
    show wt_gf1 z1 c (13 * l + k) = wt_gf1 z c (13 * l + k)
    unfold wt_gf1
    rw [f _ (by omega), e121]
set_option maxHeartbeats 4000000 in
theorem wh_takesG (n : Nat) (hn : 4294967297 < n) {x1 : Int32} {z : wt_St} (r : wt_RI z) (m : wt_M12 z) (nn : ∀ l : Nat, l < 26 → 0 ≤ (wt_ga z 287 l).toInt) : wt_H (wp_md_takes n x1 (4 : Int32) z) (fun q => (q.1 = 0 ∧ q.2 = z ∧ ¬ ∀ l : Nat, l < 26 → (wt_ga z 287 l).toInt ≤ wt_go z x1.toInt l) ∨ (q.1 = 1 ∧ (∀ l : Nat, l < 26 → (wt_ga z 287 l).toInt ≤ wt_go z x1.toInt l) ∧ (∀ l : Nat, l < 26 → wt_go q.2 x1.toInt l = wt_go z x1.toInt l - (wt_ga z 287 l).toInt) ∧ ∀ j, wt_ga q.2 124 j = wt_ga z 124 j ∨ wt_ga q.2 124 j = (4 : Int32) ∧ (wt_ga z 124 j).toInt = -1)) := by
  have k0 : (0 : Int32).toInt = 0 := by decide
  have k26 : (26 : Int32).toInt = 26 := by decide
  unfold wp_md_takes
  refine wt_H_bh (wh_lackingM n hn r) (fun q1 h1 => ?_)
  rw [h1.1]
  refine wt_H_if (fun c => ?_) (fun c => ?_)
  · have all : ∀ l : Nat, l < 26 → (wt_ga z 287 l).toInt ≤ wt_go z x1.toInt l := fun l hl => by
      rcases h1.2 with ⟨w, -, w2, -⟩ | ⟨-, w2⟩
      · rw [c, wt_lm1] at w2
        omega
      · have := w2 l hl
        omega
    obtain ⟨z1, ε⟩ : ∃ o : wt_St, o = wt_sf z 108 54 (0 : Int32) := ⟨_, rfl⟩
    rw [← ε]
    have f1 := wt_fr_sf ε
    have G1 : ∀ (c : Int) (l : Nat), wt_go z1 c l = wt_go z c l := fun c l => by
      unfold wt_go wt_gf1
      rw [f1.2 111 (fun h => h)]
      refine wt_sum_congr _ (fun k _ => ?_)
      show (if (wt_ga z1 124 (13 * l + k)).toInt = -1 ∧ c ≤ (wt_ga z1 121 (13 * l + k)).toInt then (1 : Int) else 0) = if (wt_ga z 124 (13 * l + k)).toInt = -1 ∧ c ≤ (wt_ga z 121 (13 * l + k)).toInt then 1 else 0
      rw [f1.2 124 (fun h => h), f1.2 121 (fun h => h)]
    -- ahead of letter l all has gone, of letter l so many
    refine wt_H_it (fun t : Int32 × wt_St => (0 ≤ t.1.toInt ∧ t.1.toInt ≤ 26) ∧ wt_fr (fun i k => i = 108 ∧ k = 54) (fun i => i = 124 ∨ i = 288) z t.2 ∧ (∀ l : Nat, l < 26 → wt_go t.2 x1.toInt l = wt_go z x1.toInt l - if (l : Int) < t.1.toInt then (wt_ga z 287 l).toInt else 0) ∧ ∀ j, wt_ga t.2 124 j = wt_ga z 124 j ∨ wt_ga t.2 124 j = (4 : Int32) ∧ (wt_ga z 124 j).toInt = -1) (fun K t I hK => ?_) n _ ⟨⟨by show 0 ≤ ((0 : Int32)).toInt; omega, by show ((0 : Int32)).toInt ≤ 26; omega⟩, f1.wk (fun _ _ h => h) (fun _ h => h.elim), fun l hl => by
      rw [if_neg (show ¬ (l : Int) < ((0 : Int32)).toInt by omega), G1]
      omega, fun j => Or.inl (f1.2 124 (fun h => h) j)⟩
    obtain ⟨⟨i0, i1⟩, ft, i2, i3⟩ := I
    have et := wt_tnI i0
    unfold wp_md_takes_B18
    refine wt_H_if (fun d => ?_) (fun d => ?_)
    · have d' := wt_cle d
      refine wt_H_some (Or.inr ⟨rfl, all, fun l hl => ?_, i3⟩)
      have := i2 l hl
      rw [if_pos (by omega)] at this
      exact this
    · have d' := wt_ncle d
      have ei := wt_i1 (c := t.1) (by omega)
      obtain ⟨a, ha⟩ : ∃ a : Nat, a = Int32.toNatClampNeg t.1 := ⟨_, rfl⟩
      rw [← ha] at et
      have na := nn a (by omega)
      refine wt_H_it (fun u : Int32 × wt_St => (0 ≤ u.1.toInt ∧ u.1.toInt ≤ (wt_ga z 287 a).toInt) ∧ wt_fr (fun i k => i = 108 ∧ k = 54) (fun i => i = 124 ∨ i = 288) z u.2 ∧ (∀ l : Nat, l < 26 → wt_go u.2 x1.toInt l = wt_go z x1.toInt l - (if l = a then u.1.toInt else if (l : Int) < t.1.toInt then (wt_ga z 287 l).toInt else 0)) ∧ ∀ j, wt_ga u.2 124 j = wt_ga z 124 j ∨ wt_ga u.2 124 j = (4 : Int32) ∧ (wt_ga z 124 j).toInt = -1) (fun K2 u J hK2 => ?_) n _ ⟨⟨by show 0 ≤ ((0 : Int32)).toInt; omega, by show ((0 : Int32)).toInt ≤ _; omega⟩, ft, fun l hl => by
        have h := i2 l hl
        show wt_go t.2 x1.toInt l = wt_go z x1.toInt l - (if l = a then ((0 : Int32)).toInt else if (l : Int) < t.1.toInt then (wt_ga z 287 l).toInt else 0)
        by_cases x : l = a
        · rw [if_neg (by omega)] at h
          rw [if_pos x, k0]
          exact h
        · rw [if_neg x]
          exact h, i3⟩
      obtain ⟨⟨j0, j1⟩, fu, j2, j3⟩ := J
      unfold wp_md_takes_B27
      rw [← ha, fu.2 287 (by decide)]
      refine wt_H_gd (fun _ => wt_H_if (fun g => ?_) (fun g => ?_))
      · have g' := wt_cle g
        refine hK _ ⟨⟨by show 0 ≤ (t.1 + (1 : Int32)).toInt; omega, by show (t.1 + (1 : Int32)).toInt ≤ 26; omega⟩, fu, fun l hl => ?_, j3⟩
        have h := j2 l hl
        show wt_go u.2 x1.toInt l = wt_go z x1.toInt l - if (l : Int) < (t.1 + (1 : Int32)).toInt then (wt_ga z 287 l).toInt else 0
        by_cases x : l = a
        · rw [if_pos x] at h
          rw [if_pos (by omega), x]
          rw [x] at h
          omega
        · rw [if_neg x] at h
          rw [h]
          by_cases y : (l : Int) < t.1.toInt
          · rw [if_pos y, if_pos (by omega)]
          · rw [if_neg y, if_neg (by omega)]
      · have g' := wt_ncle g
        have eui := wt_i1 (c := u.1) (by have := wt_bd (wt_ga z 287 a); omega)
        have mu : wt_M12 u.2 := fun j => by rw [fu.2 111 (by decide)]; exact m j
        refine wt_H_bh (wh_nextPieceG n (l := a) mu et.symm (by omega)) (fun q6 h6 => ?_)
        obtain ⟨e6, h6⟩ := h6
        rw [e6]
        refine wt_H_gd (fun gd => ?_)
        have gd' := wt_ixn gd
        rcases h6 with h6 | ⟨i, p1, p2, p3, p4⟩
        · rw [h6, wt_lm1] at gd'
          omega
        rw [wt_tnN p2]
        obtain ⟨s1, ε1⟩ : ∃ o : wt_St, o = wt_sa u.2 124 (13 * a + i) (4 : Int32) := ⟨_, rfl⟩
        rw [← ε1]
        have g1 := wt_fr_sa ε1
        refine wt_H_gd (fun _ => ?_)
        obtain ⟨s2, ε2⟩ : ∃ o : wt_St, o = wt_sa s1 288 (Int32.toNatClampNeg (wt_gf s1 108 54)) q6.1 := ⟨_, rfl⟩
        rw [← ε2]
        have g2 := wt_fr_sa ε2
        obtain ⟨s3, ε3⟩ : ∃ o : wt_St, o = wt_sf s2 108 54 ((wt_gf s2 108 54) + (1 : Int32)) := ⟨_, rfl⟩
        rw [← ε3]
        have g3 := wt_fr_sf ε3
        have e124 : ∀ j, wt_ga s3 124 j = wt_ga s1 124 j := fun j => (g3.2 124 (fun h => h) j).trans (g2.2 124 (by decide) j)
        have off := wu_go_off (z := u.2) (z1 := s3) (a := a) (i := i) (c := x1.toInt) mu (fun j hj => (e124 j).trans (wt_w_sa ε1 j hj)) ((e124 _).trans (wt_v_sa ε1)) (fun j => (g3.2 121 (fun h => h) j).trans ((g2.2 121 (by decide) j).trans (g1.2 121 (by decide) j))) (fun j => (g3.2 111 (fun h => h) j).trans ((g2.2 111 (by decide) j).trans (g1.2 111 (by decide) j))) p1 p3 p4
        refine hK2 _ ⟨⟨by show 0 ≤ (u.1 + (1 : Int32)).toInt; omega, by show (u.1 + (1 : Int32)).toInt ≤ _; omega⟩, ((fu.sa ε1 (Or.inl rfl)).sa ε2 (Or.inr rfl)).sf ε3 ⟨rfl, rfl⟩, fun l hl => ?_, fun j => ?_⟩
        · have h := j2 l hl
          show wt_go s3 x1.toInt l = wt_go z x1.toInt l - (if l = a then (u.1 + (1 : Int32)).toInt else if (l : Int) < t.1.toInt then (wt_ga z 287 l).toInt else 0)
          by_cases x : l = a
          · rw [if_pos x] at h
            rw [if_pos x, x, off.1]
            rw [x] at h
            omega
          · rw [if_neg x] at h
            rw [if_neg x, off.2 l x]
            exact h
        · show wt_ga s3 124 j = wt_ga z 124 j ∨ wt_ga s3 124 j = (4 : Int32) ∧ (wt_ga z 124 j).toInt = -1
          rw [e124]
          by_cases x : j = 13 * a + i
          · rw [x, wt_v_sa ε1]
            refine Or.inr ⟨rfl, ?_⟩
            rcases j3 (13 * a + i) with h | ⟨-, h⟩
            · rw [← h]
              exact p3
            · exact h
          · rw [wt_w_sa ε1 j x]
            exact j3 j
  · refine wt_H_some (Or.inl ⟨rfl, rfl, fun h => ?_⟩)
    rcases h1.2 with ⟨w, w1, -, w3, -⟩ | ⟨w1, -⟩
    · have := h w w1
      omega
    · exact c w1
theorem wt_it_s {α ρ : Type} {f : (α → Option ρ) → α → Option ρ} {k m : Nat} (h : k = m + 1) (a : α) : wt_it f k a = f (wt_it f m) a := by
  subst h
  rfl
theorem wu_sm_s (N : Nat → Nat → Int) (x : Int32) (l t : Nat) : wu_sm N x l (t + 1) = wu_sm N x l t + if wu_bb x t = true then N t l else 0 := rfl
set_option maxRecDepth 100000 in
set_option maxHeartbeats 4000000 in
theorem wr_together (n : Nat) (hn : 4294967297 < n) {x1 : Int32} {s z : wt_St} (v : wt_IV z) (rl : wu_RL s z) : wt_HH (wp_ap_together n x1 s) (wp_md_together n x1 z) (fun q y => (q.1 = 1 ∧ wt_gf y.2 108 0 = 1) ∨ (q.1 = 0 ∧ wt_gf y.2 108 0 = 0 ∧ q.2.1 = y.1)) := by
  have k0 : (0 : Int32).toInt = 0 := by decide
  have k1 : (1 : Int32).toInt = 1 := by decide
  have k26 : (26 : Int32).toInt = 26 := by decide
  have k338 : (338 : Int32).toInt = 338 := by decide
  have k4 : (4 : Int32).toInt = 4 := by decide
  unfold wp_ap_together wp_md_together
  obtain ⟨z0, ε0⟩ : ∃ o : wt_St, o = wt_sf z 108 0 (0 : Int32) := ⟨_, rfl⟩
  rw [← ε0]
  have g0 := wt_fr_sf ε0
  have t0 : wt_gf z0 108 0 = 0 := wt_v_sf ε0
  have r0 : wt_RI z0 := wt_RI_fno v.1 ε0 (Or.inr (by decide +kernel))
  have m0 : wt_M12 z0 := fun j => by rw [g0.2 111 (fun h => h)]; exact v.2.1 j
  obtain ⟨-, -, to, lc, tx, sc, -⟩ := wu_RL_z0 rl v.1 g0
  have sk := wu_SK_of lc sc
  have hz : 0 ≤ (wt_gf z0 108 39).toInt ∧ (wt_gf z0 108 39).toInt ≤ 8 := wt_Rf7 r0
  have p4 : ∀ l i : Nat, l < 26 → (i : Int) < (wt_ga z0 111 l).toInt → (wt_ga z0 124 (13 * l + i)).toInt ≠ 4 := fun l i hl hi => by
    obtain ⟨-, -, o⟩ := (sc.2.2.1 l hl).1 i hi
    rcases o with o | ⟨g, g4, o, -⟩ <;> omega
  refine wr_gC n (wp_md_together_B18 n x1) (wh_b1 n t0 (by decide) (Or.inl ⟨rfl, wt_v_sf rfl⟩)) (fun c1 c2 => wr_b0 n t0 ?_)
  refine wt_HH_lm (P := fun a b => a.1 = b.1 ∧ wt_gf b.2 108 0 = 0) ?_ (fun a b h => Or.inr ⟨rfl, h.2, h.1⟩)
  obtain ⟨T, hT⟩ : ∃ T : Nat, T = Int32.toNatClampNeg (wt_gf z0 108 39) := ⟨_, rfl⟩
  have eT := wt_tnI hz.1
  rw [← hT] at eT
  have T8 : T ≤ 8 := by omega
  have e39 : wt_gf z0 108 39 = nI T := by rw [hT]; exact wt_nIt hz.1
  have pw := wu_pow T (by omega)
  obtain ⟨N, hN⟩ : ∃ N : Nat → Nat → Int, N = fun (t l : Nat) => wt_nt z0 t (l : Int) := ⟨_, rfl⟩
  have NB : ∀ t l, t < T → l < 26 → (wt_ga s 37 (26 * t + l)).toInt = N t l ∧ 0 ≤ N t l ∧ N t l ≤ 108 := fun t l ht hl => by
    have X := tx.2 t (by omega)
    have b := wu_nt_bd to X (l : Int)
    obtain ⟨-, -, -, -, -, -, tn6⟩ := X
    rw [hN]
    exact ⟨tn6 l hl, b⟩
  have nns : ∀ (x : Int32) (l k : Nat), l < 26 → k < T → 0 ≤ (if wu_bb x k = true then N k l else 0) := fun x l k hl hk => by
    have := (NB k l hk hl).2.1
    split <;> omega
  unfold wp_tr_mostAtOnce
  refine wt_HH_itl (fun t : Int32 × wt_St => (0 ≤ t.1.toInt ∧ t.1.toInt ≤ 26) ∧ wt_fr (fun _ _ => False) (fun i => i = 106) s t.2 ∧ ∀ l : Nat, (l : Int) < t.1.toInt → (wt_ga t.2 106 l).toInt = wt_go z0 x1.toInt l) (fun K t I hK => ?_) n _ ⟨⟨by show 0 ≤ ((0 : Int32)).toInt; omega, by show ((0 : Int32)).toInt ≤ 26; omega⟩, wt_fr.rf, fun l hl => absurd (show (l : Int) < ((0 : Int32)).toInt from hl) (by omega)⟩
  obtain ⟨⟨i0, i1⟩, ft, i2⟩ := I
  have et := wt_tnI i0
  unfold wp_tr_mostAtOnce_B2
  refine wt_HH_il (fun c => ?_) (fun c => ?_)
  rotate_left
  · have c' := wt_ncle c
    have ei := wt_i1 (c := t.1) (by omega)
    have skt : wu_SK 40 t.2 z0 := wu_SK_fr sk ft (wt_fr.rf (F := fun _ _ => False) (A := fun _ => False)) ⟨by decide, by decide, by decide⟩ ⟨fun h => h, fun h => h, fun h => h⟩
    obtain ⟨q1, q2, -⟩ := skt (Int32.toNatClampNeg t.1) (by omega)
    refine wt_HH_l (wh_ready n hn (a := 40) (l := Int32.toNatClampNeg t.1) (by decide) et.symm (by omega) q2.1 q2.2) (fun q8 h8 => ?_)
    obtain ⟨e8, v8⟩ := h8
    rw [wu_rd_go skt (by omega)] at v8
    refine wt_HH_gl (fun _ => ?_)
    rw [e8]
    obtain ⟨s1, ε⟩ : ∃ o : wt_St, o = wt_sa t.2 106 (Int32.toNatClampNeg t.1) q8.1 := ⟨_, rfl⟩
    rw [← ε]
    refine hK _ ⟨⟨by show 0 ≤ (t.1 + (1 : Int32)).toInt; omega, by show (t.1 + (1 : Int32)).toInt ≤ 26; omega⟩, ft.sa ε rfl, fun l hl => ?_⟩
    have hl' : (l : Int) < (t.1 + (1 : Int32)).toInt := hl
    show (wt_ga s1 106 l).toInt = _
    by_cases x : l = Int32.toNatClampNeg t.1
    · rw [x, wt_v_sa ε]
      exact v8
    · rw [wt_w_sa ε l x]
      exact i2 l (by omega)
  have c' := wt_cle c
  have e34 : wt_gf t.2 34 4 = wt_gf z0 108 39 := by rw [ft.1 34 4 (fun h => h)]; exact tx.1
  -- the empty set is behind the reference at once
  obtain ⟨m, hm⟩ : ∃ m : Nat, n = m + 1 := ⟨n - 1, by omega⟩
  rw [wt_it_s (f := wp_md_together_B31 n x1) hm]
  obtain ⟨K31, hK31⟩ : ∃ K31, K31 = wt_it (wp_md_together_B31 n x1) m := ⟨_, rfl⟩
  rw [← hK31]
  have first : wt_HH (wt_it (wp_tr_mostAtOnce_B43 n) n ((0 : Int32), (1 : Int32), t.2)) (K31 ((0 : Int32), (1 : Int32), z0)) (fun a b => a.1 = b.1 ∧ wt_gf b.2 108 0 = 0) → wt_HH (wt_it (wp_tr_mostAtOnce_B43 n) n ((0 : Int32), (1 : Int32), t.2)) (wp_md_together_B31 n x1 K31 ((0 : Int32), (0 : Int32), z0)) (fun a b => a.1 = b.1 ∧ wt_gf b.2 108 0 = 0) := fun h => by
    unfold wp_md_together_B31
    rw [if_neg (show ¬ ((1 : Int32) <<< ((wt_gf ((0 : Int32), (0 : Int32), z0).2.2 108 39) &&& 31)) ≤ ((0 : Int32), (0 : Int32), z0).2.1 from fun x => by
      have x' := wt_cle x
      have y : ((1 : Int32) <<< ((wt_gf z0 108 39) &&& 31)).toInt ≤ ((0 : Int32)).toInt := x'
      rw [e39] at y
      omega)]
    refine wt_HH_r (wh_ones n) (fun q6 h6 => ?_)
    subst h6
    refine wt_HH_r (wh_ones n) (fun q7 h7 => ?_)
    subst h7
    dsimp only
    rw [if_neg (show ¬ wu_on 0 16 < wu_on 0 16 from fun x => by have := wt_clt x; omega)]
    exact h
  refine first ?_
  rw [hK31]
  refine wt_HH_it (fun (p r : Int32 × Int32 × wt_St) => (p.1 = r.1 ∧ p.2.1 = r.2.1 ∧ p.2.2 = t.2) ∧ (0 ≤ r.2.1.toInt ∧ 0 ≤ r.1.toInt ∧ r.1.toInt < 256) ∧ wt_RI r.2.2 ∧ wu_KV z0 r.2.2 ∧ wt_fr (fun i k => i = 108 ∧ k = 54) (fun i => i = 287 ∨ i = 124 ∨ i = 288) z0 r.2.2) (fun K43 K31 p r J hK2 => ?_) n m _ _ ⟨⟨rfl, rfl, rfl⟩, ⟨by show 0 ≤ ((1 : Int32)).toInt; omega, by show 0 ≤ ((0 : Int32)).toInt; omega, by show ((0 : Int32)).toInt < 256; omega⟩, r0, wu_KV_rf z0, wt_fr.rf⟩
  obtain ⟨⟨j1, j2, j3⟩, ⟨j4, j5, j6⟩, rr, kv, fr⟩ := J
  unfold wp_tr_mostAtOnce_B43 wp_md_together_B31
  rw [j1, j2, j3, e34, fr.1 108 39 (by decide), e39]
  by_cases d : ((1 : Int32) <<< ((nI T) &&& 31)) ≤ r.2.1
  · rw [if_pos d, if_pos d]
    refine wt_HH_some ⟨rfl, ?_⟩
    show wt_gf r.2.2 108 0 = 0
    rw [fr.1 108 0 (by decide)]
    exact t0
  rw [if_neg d, if_neg d]
  have d' := wt_ncle d
  have ei := wt_i1 (c := r.2.1) (by omega)
  refine wt_HH_l (wh_bitCount n) (fun q3 h3 => ?_)
  subst h3
  refine wt_HH_l (wh_bitCount n) (fun q4 h4 => ?_)
  subst h4
  refine wt_HH_r (wh_ones n) (fun q6 h6 => ?_)
  subst h6
  refine wt_HH_r (wh_ones n) (fun q7 h7 => ?_)
  subst h7
  dsimp only
  rw [wu_bc_on j4 (by omega), wu_bc_on j5 j6]
  have NX : ∀ (w : Int32) (zz : wt_St), (0 ≤ w.toInt ∧ w.toInt < 256) → wt_RI zz → wu_KV z0 zz → wt_fr (fun i k => i = 108 ∧ k = 54) (fun i => i = 287 ∨ i = 124 ∨ i = 288) z0 zz → wt_HH (K43 (w, (r.2.1 + (1 : Int32)), t.2)) (K31 (w, (r.2.1 + (1 : Int32)), zz)) (fun a b => a.1 = b.1 ∧ wt_gf b.2 108 0 = 0) := fun w zz h1 h2 h3 h4 => hK2 _ _ ⟨⟨rfl, rfl, rfl⟩, ⟨by show 0 ≤ (r.2.1 + (1 : Int32)).toInt; omega, h1.1, h1.2⟩, h2, h3, h4⟩
  unfold wp_tr_mostAtOnce_B77 wp_md_together_B164
  by_cases e : wu_on r.2.1 16 ≤ wu_on r.1 16
  · rw [if_pos e, if_neg (show ¬ wu_on r.1 16 < wu_on r.2.1 16 from fun x => by have := wt_clt x; have := wt_cle e; omega)]
    exact NX _ _ ⟨j5, j6⟩ rr kv fr
  rw [if_neg e, if_pos (show wu_on r.1 16 < wu_on r.2.1 16 from Int32.lt_iff_toInt_lt.mpr (by have := wt_ncle e; omega))]
  -- the class counts
  refine wt_HH_l (wh_standAt n hn (T := T) (s := t.2) (N := N) (by rw [e34]; omega) T8 (fun t' l ht hl => by rw [ft.2 37 (by decide)]; exact NB t' l ht hl)) (fun q6 h6 => ?_)
  obtain ⟨e6, h6⟩ := h6
  rw [e6]
  have Φ : (∀ l : Nat, l < 26 → wu_sm N r.2.1 l T ≤ (wt_ga t.2 106 l).toInt) ↔ ∀ l : Nat, l < 26 → wu_sm N r.2.1 l T ≤ wt_go z0 x1.toInt l := ⟨fun h l hl => by rw [← i2 l (by omega)]; exact h l hl, fun h l hl => by rw [i2 l (by omega)]; exact h l hl⟩
  rw [Φ] at h6
  -- what was taken goes back
  have BACK : ∀ (x4 : Int32) (zz : wt_St), ((x4 = 1 ∧ ∀ l : Nat, l < 26 → wu_sm N r.2.1 l T ≤ wt_go z0 x1.toInt l) ∨ (x4 = 0 ∧ ¬ ∀ l : Nat, l < 26 → wu_sm N r.2.1 l T ≤ wt_go z0 x1.toInt l)) → wt_RI zz → wt_fr (fun i k => i = 108 ∧ k = 54) (fun i => i = 287 ∨ i = 124 ∨ i = 288) z0 zz → (∀ l i : Nat, l < 26 → (i : Int) < (wt_ga z0 111 l).toInt → wt_ga zz 124 (13 * l + i) = wt_ga z0 124 (13 * l + i) ∨ wt_ga zz 124 (13 * l + i) = (4 : Int32) ∧ (wt_ga z0 124 (13 * l + i)).toInt = -1) → wt_HH (if q6.1 = 0 then K43 (r.1, (r.2.1 + (1 : Int32)), t.2) else K43 (r.2.1, (r.2.1 + (1 : Int32)), t.2)) (wp_md_together_B107 n x1 r.1 r.2.1 x4 K31 zz) (fun a b => a.1 = b.1 ∧ wt_gf b.2 108 0 = 0) := fun x4 zz hx rzz fzz pc => by
    unfold wp_md_together_B107
    refine wt_HH_itr (fun u : Int32 × wt_St => 0 ≤ u.1.toInt ∧ wt_RI u.2 ∧ wt_fr (fun _ _ => False) (fun i => i = 124) zz u.2 ∧ (∀ c : Nat, (c : Int) < u.1.toInt → wt_ga u.2 124 c = if wt_ga zz 124 c = (4 : Int32) then (-1 : Int32) else wt_ga zz 124 c) ∧ ∀ c : Nat, u.1.toInt ≤ (c : Int) → wt_ga u.2 124 c = wt_ga zz 124 c) (fun KK u U hK4 => ?_) n _ ⟨by show 0 ≤ ((0 : Int32)).toInt; omega, rzz, wt_fr.rf, fun c hc => absurd (show (c : Int) < ((0 : Int32)).toInt from hc) (by omega), fun _ _ => rfl⟩
    obtain ⟨u0, ur, uf, u1, u2⟩ := U
    have eu := wt_tnI u0
    unfold wp_md_together_B110 wp_md_together_B163 wp_md_together_B164 wp_md_together_B146
    refine wt_HH_ir (fun g => ?_) (fun g => ?_)
    · have g' := wt_cle g
      have KVu : wu_KV z0 u.2 := ⟨fun l => (uf.2 111 (by decide) l).trans (fzz.2 111 (by decide) l), fun l i hl hi => by
        have mz := m0 l
        refine ⟨(uf.2 121 (by decide) _).trans (fzz.2 121 (by decide) _), ?_⟩
        rw [u1 _ (by omega)]
        rcases pc l i hl hi with h | ⟨h, h2⟩
        · rw [h, if_neg (fun h2 => p4 l i hl hi (by rw [h2]; exact k4))]
        · rw [if_pos h]
          exact wt_eqI (by rw [h2, wt_lm1])⟩
      have FRu : wt_fr (fun i k => i = 108 ∧ k = 54) (fun i => i = 287 ∨ i = 124 ∨ i = 288) z0 u.2 := wt_fr.tr fzz uf (fun _ _ h => h.elim) (fun _ h => Or.inr (Or.inl h))
      rcases h6 with ⟨a, b⟩ | ⟨a, b⟩
      · rcases hx with ⟨x, y⟩ | ⟨x, y⟩
        · rw [x, if_neg (show ¬ q6.1 = 0 by rw [a]; decide), if_neg (show ¬ (1 : Int32) = 0 by decide)]
          exact NX _ _ ⟨j4, by omega⟩ ur KVu FRu
        · exact absurd b y
      · rcases hx with ⟨x, y⟩ | ⟨x, y⟩
        · exact absurd y b
        · rw [x, if_pos (show q6.1 = 0 from a), if_pos (show (0 : Int32) = 0 from rfl)]
          exact NX _ _ ⟨j5, j6⟩ ur KVu FRu
    · have g' := wt_ncle g
      have eui := wt_i1 (c := u.1) (by omega)
      have vu := u2 (Int32.toNatClampNeg u.1) (by omega)
      have W : ∀ w : Int32, (w = if wt_ga zz 124 (Int32.toNatClampNeg u.1) = (4 : Int32) then (-1 : Int32) else wt_ga zz 124 (Int32.toNatClampNeg u.1)) → wt_HH (if q6.1 = 0 then K43 (r.1, (r.2.1 + (1 : Int32)), t.2) else K43 (r.2.1, (r.2.1 + (1 : Int32)), t.2)) (KK ((u.1 + (1 : Int32)), (wt_sa u.2 124 (Int32.toNatClampNeg u.1) w))) (fun a b => a.1 = b.1 ∧ wt_gf b.2 108 0 = 0) := fun w hw => by
        obtain ⟨s1, ε1⟩ : ∃ o : wt_St, o = wt_sa u.2 124 (Int32.toNatClampNeg u.1) w := ⟨_, rfl⟩
        rw [← ε1]
        refine hK4 _ ⟨by show 0 ≤ (u.1 + (1 : Int32)).toInt; omega, wt_RI_no ur ε1 124 125 (by decide +kernel) (by decide) (by decide), uf.sa ε1 rfl, fun c hc => ?_, fun c hc => ?_⟩
        · have hc' : (c : Int) < (u.1 + (1 : Int32)).toInt := hc
          show wt_ga s1 124 c = _
          by_cases h : c = Int32.toNatClampNeg u.1
          · rw [h, wt_v_sa ε1]
            exact hw
          · rw [wt_w_sa ε1 c h]
            exact u1 c (by omega)
        · have hc' : (u.1 + (1 : Int32)).toInt ≤ (c : Int) := hc
          show wt_ga s1 124 c = wt_ga zz 124 c
          rw [wt_w_sa ε1 c (by omega)]
          exact u2 c (by omega)
      refine wt_HH_gr (fun _ => wt_HH_ir (fun x => wt_HH_gr (fun _ => W _ ?_)) (fun x => wt_HH_gr (fun _ => wt_HH_gr (fun _ => W _ ?_))))
      · rw [vu] at x
        rw [if_pos x]
      · rw [vu] at x
        rw [vu, if_neg x]
  -- text by text
  refine wt_HH_itr (fun u : Int32 × Int32 × wt_St => (0 ≤ u.2.1.toInt ∧ u.2.1.toInt ≤ (T : Int)) ∧ wt_RI u.2.2 ∧ wt_fr (fun i k => i = 108 ∧ k = 54) (fun i => i = 287 ∨ i = 124 ∨ i = 288) z0 u.2.2 ∧ (∀ l i : Nat, l < 26 → (i : Int) < (wt_ga z0 111 l).toInt → wt_ga u.2.2 124 (13 * l + i) = wt_ga z0 124 (13 * l + i) ∨ wt_ga u.2.2 124 (13 * l + i) = (4 : Int32) ∧ (wt_ga z0 124 (13 * l + i)).toInt = -1) ∧ ((u.1 = 1 ∧ ∀ l : Nat, l < 26 → wu_sm N r.2.1 l (Int32.toNatClampNeg u.2.1) ≤ wt_go z0 x1.toInt l ∧ wt_go u.2.2 x1.toInt l = wt_go z0 x1.toInt l - wu_sm N r.2.1 l (Int32.toNatClampNeg u.2.1)) ∨ (u.1 = 0 ∧ ¬ ∀ l : Nat, l < 26 → wu_sm N r.2.1 l T ≤ wt_go z0 x1.toInt l))) (fun KK u U hK4 => ?_) n _ ⟨⟨by show 0 ≤ ((0 : Int32)).toInt; omega, by show ((0 : Int32)).toInt ≤ _; omega⟩, rr, fr, fun l i hl hi => Or.inl (kv.2 l i hl hi).2, Or.inl ⟨rfl, fun l hl => by
      show wu_sm N r.2.1 l (Int32.toNatClampNeg (0 : Int32)) ≤ _ ∧ wt_go r.2.2 x1.toInt l = wt_go z0 x1.toInt l - wu_sm N r.2.1 l (Int32.toNatClampNeg (0 : Int32))
      rw [wt_tn0, wu_go_KV kv hl]
      have := wt_go_nn (z := z0) (l := l) x1.toInt
      have e : wu_sm N r.2.1 l 0 = 0 := rfl
      omega⟩⟩
  obtain ⟨⟨u0, u1⟩, ur, uf, up, uv⟩ := U
  have eu := wt_tnI u0
  unfold wp_md_together_B61 wp_md_together_B101
  rw [uf.1 108 39 (by decide)]
  refine wt_HH_ir (fun g => ?_) (fun g => ?_)
  · have g' := wt_cle g
    refine BACK _ _ ?_ ur uf up
    rcases uv with ⟨a, b⟩ | ⟨a, b⟩
    · refine Or.inl ⟨a, fun l hl => ?_⟩
      have := (b l hl).1
      rw [show Int32.toNatClampNeg u.2.1 = T by omega] at this
      exact this
    · exact Or.inr ⟨a, b⟩
  have g' := wt_ncle g
  have eui := wt_i1 (c := u.2.1) (by omega)
  have en : Int32.toNatClampNeg (u.2.1 + (1 : Int32)) = Int32.toNatClampNeg u.2.1 + 1 := by have := wt_tnI (x := u.2.1 + (1 : Int32)) (by omega); omega
  refine wt_HH_ir (fun x => ?_) (fun x => ?_)
  · refine BACK _ _ ?_ ur uf up
    rcases uv with ⟨a, b⟩ | ⟨a, b⟩
    · rw [a] at x
      exact absurd x (by decide)
    · exact Or.inr ⟨a, b⟩
  rcases uv with ⟨ua, ub⟩ | ⟨ua, -⟩
  rotate_left
  · exact absurd ua x
  have ek : u.2.1 = nI (Int32.toNatClampNeg u.2.1) := wt_nIt u0
  refine wt_HH_ir (fun y => ?_) (fun y => ?_)
  · have y' : wu_bt r.2.1 u.2.1 := y
    rw [ek] at y'
    have yb := (wu_bt_bb (by omega)).mp y'
    refine hK4 _ ⟨⟨by show 0 ≤ (u.2.1 + (1 : Int32)).toInt; omega, by show (u.2.1 + (1 : Int32)).toInt ≤ _; omega⟩, ur, uf, up, Or.inl ⟨ua, fun l hl => ?_⟩⟩
    show wu_sm N r.2.1 l (Int32.toNatClampNeg (u.2.1 + (1 : Int32))) ≤ _ ∧ wt_go u.2.2 x1.toInt l = wt_go z0 x1.toInt l - wu_sm N r.2.1 l (Int32.toNatClampNeg (u.2.1 + (1 : Int32)))
    rw [en, wu_sm_s, yb, if_neg (by decide), Int.add_zero]
    exact ub l hl
  · have y' : ¬ wu_bt r.2.1 (nI (Int32.toNatClampNeg u.2.1)) := fun h => y (by rw [← ek] at h; exact h)
    have yb : wu_bb r.2.1 (Int32.toNatClampNeg u.2.1) = true := by
      cases hb : wu_bb r.2.1 (Int32.toNatClampNeg u.2.1)
      · exact absurd ((wu_bt_bb (by omega)).mpr hb) y'
      · rfl
    refine wt_HH_r (wq_md_needsText n hn u.2.1 u.2.2 ur u0 (by omega)).h (fun q18 h18 => ?_)
    obtain ⟨f18, r18, nb18, v18⟩ := h18
    have F18 : wt_fr (fun i k => i = 108 ∧ k = 54) (fun i => i = 287 ∨ i = 124 ∨ i = 288) z0 q18 := wt_fr.tr uf f18 (fun _ _ h => h.elim) (fun _ h => Or.inl h)
    have m18 : wt_M12 q18 := fun j => by rw [F18.2 111 (by decide)]; exact m0 j
    have n18 : ∀ l : Nat, l < 26 → (wt_ga q18 287 l).toInt = N (Int32.toNatClampNeg u.2.1) l := fun l hl => by
      rw [v18 l hl, hN]
      exact wt_nt_fr r0 (by omega) (fun i hi j => uf.2 i (by unfold wt_PA at hi; (try dsimp only); omega) j)
    have g18 : ∀ l : Nat, wt_go q18 x1.toInt l = wt_go u.2.2 x1.toInt l := fun l => by
      unfold wt_go
      rw [f18.2 111 (by decide)]
      refine wt_sum_congr _ (fun k _ => ?_)
      show wt_gf1 q18 x1.toInt (13 * l + k) = wt_gf1 u.2.2 x1.toInt (13 * l + k)
      unfold wt_gf1
      rw [f18.2 124 (by decide), f18.2 121 (by decide)]
    refine wt_HH_r (wt_H_and (wh_takesG n hn r18 m18 nb18.1) (wq_md_takes n hn x1 (4 : Int32) q18 r18 (by omega) (by omega) nb18).h) (fun q19 h19 => ?_)
    obtain ⟨h19, f19, r19, -⟩ := h19
    have F19 : wt_fr (fun i k => i = 108 ∧ k = 54) (fun i => i = 287 ∨ i = 124 ∨ i = 288) z0 q19.2 := wt_fr.tr F18 f19 (fun _ _ h => h) (fun _ h => Or.inr h)
    have P18 : ∀ l i : Nat, l < 26 → (i : Int) < (wt_ga z0 111 l).toInt → wt_ga q18 124 (13 * l + i) = wt_ga z0 124 (13 * l + i) ∨ wt_ga q18 124 (13 * l + i) = (4 : Int32) ∧ (wt_ga z0 124 (13 * l + i)).toInt = -1 := fun l i hl hi => by
      rw [f18.2 124 (by decide)]
      exact up l i hl hi
    rcases h19 with ⟨a1, a2, a3⟩ | ⟨a1, a2, a3, a4⟩
    · refine hK4 _ ⟨⟨by show 0 ≤ (u.2.1 + (1 : Int32)).toInt; omega, by show (u.2.1 + (1 : Int32)).toInt ≤ _; omega⟩, r19, F19, by show ∀ l i : Nat, l < 26 → (i : Int) < (wt_ga z0 111 l).toInt → wt_ga q19.2 124 (13 * l + i) = wt_ga z0 124 (13 * l + i) ∨ wt_ga q19.2 124 (13 * l + i) = (4 : Int32) ∧ (wt_ga z0 124 (13 * l + i)).toInt = -1; rw [a2]; exact P18, Or.inr ⟨a1, fun h => a3 (fun l hl => ?_)⟩⟩
      have hh := h l hl
      have pre := wt_sum_pre (f := fun t => if wu_bb r.2.1 t = true then N t l else 0) (a := Int32.toNatClampNeg u.2.1 + 1) T (by omega) (fun k hk => nns r.2.1 l k hl hk)
      have pre' : wu_sm N r.2.1 l (Int32.toNatClampNeg u.2.1 + 1) ≤ wu_sm N r.2.1 l T := pre
      rw [wu_sm_s, yb, if_pos rfl] at pre'
      rw [n18 l hl, g18, (ub l hl).2]
      omega
    · refine hK4 _ ⟨⟨by show 0 ≤ (u.2.1 + (1 : Int32)).toInt; omega, by show (u.2.1 + (1 : Int32)).toInt ≤ _; omega⟩, r19, F19, fun l i hl hi => ?_, Or.inl ⟨a1, fun l hl => ?_⟩⟩
      · show wt_ga q19.2 124 (13 * l + i) = wt_ga z0 124 (13 * l + i) ∨ wt_ga q19.2 124 (13 * l + i) = (4 : Int32) ∧ (wt_ga z0 124 (13 * l + i)).toInt = -1
        rcases a4 (13 * l + i) with h | ⟨h, h2⟩
        · rw [h]
          exact P18 l i hl hi
        · refine Or.inr ⟨h, ?_⟩
          rcases P18 l i hl hi with q | ⟨q, q2⟩
          · rw [← q]
            exact h2
          · exact q2
      · show wu_sm N r.2.1 l (Int32.toNatClampNeg (u.2.1 + (1 : Int32))) ≤ _ ∧ wt_go q19.2 x1.toInt l = wt_go z0 x1.toInt l - wu_sm N r.2.1 l (Int32.toNatClampNeg (u.2.1 + (1 : Int32)))
        have b1 := a2 l hl
        have b2 := a3 l hl
        have b3 := (ub l hl).2
        rw [en, wu_sm_s, yb, if_pos rfl]
        rw [n18 l hl, g18] at b1 b2
        omega
end WTQ3
