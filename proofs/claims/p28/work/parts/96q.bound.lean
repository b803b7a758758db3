/-! bound: for each letter what is worth most for each print of it -/
theorem wt_HH_itb {α α' ρ ρ' τ : Type} {body : (α → Option ρ) → α → Option ρ} {f : ρ → Option τ} {body' : (α' → Option ρ') → α' → Option ρ'} {Q : τ → ρ' → Prop} (I : α → α' → Prop) (h : ∀ (K : α → Option ρ) (K' : α' → Option ρ') (s : α) (s' : α'), I s s' → (∀ t t', I t t' → wt_HH ((K t).bind f) (K' t') Q) → wt_HH ((body K s).bind f) (body' K' s') Q) : ∀ (n n' : Nat) (s : α) (s' : α'), I s s' → wt_HH ((wt_it body n s).bind f) (wt_it body' n' s') Q := by
  intro n
  induction n with
  | zero => intro n' s s' _; exact wt_HH_nl
  | succ n ih =>
    intro n' s s' hs
    cases n' with
    | zero => exact wt_HH_nr
    | succ n' => exact h _ _ s s' hs (fun t t' ht => ih n' t t' ht)
def wu_lf (z : wt_St) (l i : Nat) : Int := if (wt_ga z 124 (13 * l + i)).toInt = -1 then (wt_ga z 121 (13 * l + i)).toInt else 0
def wu_ls0 (z : wt_St) (l : Nat) : Nat → Int := wt_sum (wu_lf z l)
theorem wu_lf_bd {z : wt_St} (r : wt_RI z) (l i : Nat) : 0 ≤ wu_lf z l i ∧ wu_lf z l i ≤ 400 := by
  have h : 0 ≤ (wt_ga z 121 (13 * l + i)).toInt ∧ (wt_ga z 121 (13 * l + i)).toInt ≤ 400 := wt_Ra3 r 121 (show 120 ≤ 121 by omega) (show 121 < 122 by omega) _
  unfold wu_lf
  split <;> omega
theorem wh_leftInCase (n : Nat) (hn : 4294967297 < n) {l : Nat} {x1 : Int32} {s z : wt_St} (r : wt_RI z) (sk : wu_SK 40 s z) (hx : x1.toInt = (l : Int)) (hl : l < 26) : wt_H (wp_sk_leftInCase n x1 s) (fun q => q.2 = s ∧ q.1.toInt = wu_ls0 z l (Int32.toNatClampNeg (wt_ga z 111 l))) := by
  have k0 : (0 : Int32).toInt = 0 := by decide
  obtain ⟨m1, m2, m3⟩ := sk l hl
  have em := wt_tnI m2.1
  unfold wp_sk_leftInCase
  refine wt_H_it (fun t : Int32 × Int32 × wt_St => t.2.2 = s ∧ (0 ≤ t.2.1.toInt ∧ t.2.1.toInt ≤ (wt_ga s 5 l).toInt) ∧ t.1.toInt = wu_ls0 z l (Int32.toNatClampNeg t.2.1)) (fun K t I hK => ?_) n _ ⟨rfl, ⟨by show 0 ≤ ((0 : Int32)).toInt; omega, by show ((0 : Int32)).toInt ≤ _; omega⟩, by show ((0 : Int32)).toInt = wu_ls0 z l (Int32.toNatClampNeg (0 : Int32)); rw [wt_tn0, k0]; rfl⟩
  obtain ⟨i0, ⟨i1, i2⟩, i3⟩ := I
  have et := wt_tnI i1
  unfold wp_sk_leftInCase_B4
  rw [i0]
  refine wt_H_bh (wh_pieces n hn hx hl) (fun q1 h1 => ?_)
  subst h1
  dsimp only
  refine wt_H_if (fun c => ?_) (fun c => ?_)
  · have c' := wt_cle c
    refine wt_H_some ⟨rfl, ?_⟩
    show t.1.toInt = _
    rw [i3, ← m1, show Int32.toNatClampNeg t.2.1 = Int32.toNatClampNeg (wt_ga s 5 l) by omega]
  · have c' := wt_ncle c
    have ei := wt_i1 (c := t.2.1) (by omega)
    have ep := wt_piece hx hl i1 (by omega)
    have en : Int32.toNatClampNeg (t.2.1 + (1 : Int32)) = Int32.toNatClampNeg t.2.1 + 1 := by have := wt_tnI (x := t.2.1 + (1 : Int32)) (by omega); omega
    obtain ⟨p1, p2⟩ := m3 (Int32.toNatClampNeg t.2.1) (by omega)
    have sb := wt_sum_bd (f := wu_lf z l) (c := 400) (Int32.toNatClampNeg t.2.1) (fun k _ => wu_lf_bd r l k)
    have sb' : 0 ≤ t.1.toInt ∧ t.1.toInt ≤ 400 * (Int32.toNatClampNeg t.2.1 : Int) := by rw [i3]; exact sb
    have lb := wu_lf_bd r l (Int32.toNatClampNeg t.2.1)
    have B : ∀ y : Int32, y.toInt = wu_lf z l (Int32.toNatClampNeg t.2.1) → wt_H (wp_sk_leftInCase_B47 n x1 t.2.1 K t.1 y s) (fun q => q.2 = s ∧ q.1.toInt = wu_ls0 z l (Int32.toNatClampNeg (wt_ga z 111 l))) := fun y hy => by
      have ea := wt_addE (x := t.1) (y := y) (by omega) (by omega)
      unfold wp_sk_leftInCase_B47
      refine hK _ ⟨rfl, ⟨by show 0 ≤ (t.2.1 + (1 : Int32)).toInt; omega, by show (t.2.1 + (1 : Int32)).toInt ≤ _; omega⟩, ?_⟩
      show (t.1 + y).toInt = wu_ls0 z l (Int32.toNatClampNeg (t.2.1 + (1 : Int32)))
      rw [en, ea, i3, hy]
      rfl
    refine wt_H_bh (wh_lies n hn (j := 12 * l + Int32.toNatClampNeg t.2.1) ep (by omega)) (fun q3 h3 => ?_)
    obtain ⟨e3, h3⟩ := h3
    rw [e3]
    rcases h3 with ⟨u, h3⟩ | ⟨u, h3⟩
    · rw [if_neg (show ¬ q3.1 = 0 by rw [u]; decide)]
      refine wt_H_bh (wh_look n hn (k := 12 * l + Int32.toNatClampNeg t.2.1) ep (by rw [show wt_ln 40 = 312 from by decide]; omega)) (fun q5 h5 => ?_)
      subst h5
      refine B _ ?_
      show (wt_ga s 40 (12 * l + Int32.toNatClampNeg t.2.1)).toInt = _
      unfold wu_lf
      rw [p2] at h3
      rw [if_pos h3, p1]
    · rw [if_pos (show q3.1 = 0 from u)]
      refine B _ ?_
      unfold wu_lf
      rw [p2] at h3
      rw [if_neg h3, k0]
/-- what a wanted one needs of a letter -/
theorem wu_nt_bd {s z : wt_St} {t : Nat} (to : wt_TO s z) (x : wu_X1 s z t) (l : Int) : 0 ≤ wt_nt z t l ∧ wt_nt z t l ≤ 108 := by
  obtain ⟨W, G, ⟨-, w2, -⟩, -, tt, -⟩ := to
  obtain ⟨m, m1, m2, m3, m4, m5, -⟩ := x
  have em : Int32.toNatClampNeg (wt_ga z 253 t) = m := by
    rw [m2]
    exact wt_tnN m1
  have b := wt_sum_bd (f := fun k => wt_nw z (Int32.toNatClampNeg (wt_ga z (255 + t) k)) l) (c := 9) m (fun k hk => by
    obtain ⟨e1, e2, e3⟩ := m5 k hk
    have et := wt_tnI e2
    rw [e1] at et e3
    obtain ⟨a, -, -, b, -⟩ := tt (Int32.toNatClampNeg (wt_ga z (255 + t) k)) (by omega)
    have c := wt_ct_bd (fun k' => (wt_ga z (193 + Int32.toNatClampNeg (wt_ga z (255 + t) k)) k').toInt) l (Int32.toNatClampNeg (wt_ga z 126 (Int32.toNatClampNeg (wt_ga z (255 + t) k))))
    have d := wt_tnle (b := 9) (x := wt_ga z 126 (Int32.toNatClampNeg (wt_ga z (255 + t) k))) (by rw [← a]; omega)
    show 0 ≤ wt_nw z (Int32.toNatClampNeg (wt_ga z (255 + t) k)) l ∧ wt_nw z (Int32.toNatClampNeg (wt_ga z (255 + t) k)) l ≤ 9
    unfold wt_nw
    omega)
  unfold wt_nt
  rw [em]
  omega
def wu_ui (s : wt_St) (l k : Nat) : Int32 := (wt_ga s 37 (26 * Int32.toNatClampNeg (wt_ga s 44 k) + l)) * (wt_ga s 45 k)
theorem wu_ui_bd {s z : wt_St} (bs : wu_BS 40 s z) {l k W : Nat} (hW : (wt_gf z 108 40).toInt = (W : Int)) (hl : l < 26) (hk : k < W) : (0 ≤ (wt_ga s 44 k).toInt ∧ (wt_ga s 44 k).toInt ≤ 7) ∧ 0 ≤ (wu_ui s l k).toInt ∧ (wu_ui s l k).toInt ≤ 43200 := by
  obtain ⟨r, -, to, tx, ⟨w1, w2, w3⟩, -⟩ := bs
  have hz : 0 ≤ (wt_gf z 108 39).toInt ∧ (wt_gf z 108 39).toInt ≤ 8 := wt_Rf7 r
  obtain ⟨-, ⟨b0, b1⟩, ⟨b2, b3⟩, -⟩ := w3 k (by rw [w1]; omega)
  have et := wt_tnI b0
  have X := tx.2 (Int32.toNatClampNeg (wt_ga s 44 k)) (by omega)
  have nb := wu_nt_bd to X (l : Int)
  obtain ⟨-, -, -, -, -, -, tn6⟩ := X
  have e := tn6 l hl
  refine ⟨by omega, ?_⟩
  have m1 : 0 ≤ (wt_ga s 37 (26 * Int32.toNatClampNeg (wt_ga s 44 k) + l)).toInt * (wt_ga s 45 k).toInt := Int.mul_nonneg (by omega) (by omega)
  have m2 : (wt_ga s 37 (26 * Int32.toNatClampNeg (wt_ga s 44 k) + l)).toInt * (wt_ga s 45 k).toInt ≤ 108 * 400 := Int.mul_le_mul (by omega) (by omega) (by omega) (by omega)
  have em := wt_mulE (x := wt_ga s 37 (26 * Int32.toNatClampNeg (wt_ga s 44 k) + l)) (y := wt_ga s 45 k) (by omega) (by omega)
  unfold wu_ui
  omega
theorem wh_printsOf (n : Nat) (hn : 4294967297 < n) {k l : Nat} {x1 x2 : Int32} {s : wt_St} (h1 : x1.toInt = (k : Int)) (hk : k < 10) (h2 : x2.toInt = (l : Int)) (hl : l < 26) (ht : 0 ≤ (wt_ga s 44 k).toInt ∧ (wt_ga s 44 k).toInt ≤ 7) : wt_H (wp_wk_printsOf n x1 x2 s) (fun q => q = (wu_ui s l k, s)) := by
  have k26 : (26 : Int32).toInt = 26 := by decide
  have et := wt_tnI ht.1
  unfold wp_wk_printsOf wp_tx_needOf
  refine wt_H_bh (wh_look n hn (k := k) h1 (by rw [show wt_ln 44 = 10 from by decide]; exact hk)) (fun q hq => ?_)
  subst hq
  dsimp only
  rw [wu_bind_eta]
  have em := wt_mulR (x := wt_ga s 44 k) k26 (by omega) (by omega)
  have ea := wt_addE (x := wt_ga s 44 k * (26 : Int32)) (y := x2) (by omega) (by omega)
  refine wt_H_bh (wh_look n hn (k := 26 * Int32.toNatClampNeg (wt_ga s 44 k) + l) (by omega) (by rw [show wt_ln 37 = 208 from by decide]; omega)) (fun q hq => ?_)
  subst hq
  dsimp only
  refine wt_H_bh (wh_look n hn (k := k) h1 (by rw [show wt_ln 45 = 10 from by decide]; exact hk)) (fun q hq => ?_)
  subst hq
  exact wt_H_some rfl
/-- which are done already, and what each needs -/
def wu_UR (s z : wt_St) (l W : Nat) (x : Int32) : Prop := ∀ k, k < W → (wu_bt x (nI k) ∧ wt_ga z 320 k = wu_ui s l k) ∨ (¬ wu_bt x (nI k) ∧ wt_ga z 320 k = (-1 : Int32))
set_option maxRecDepth 100000 in
set_option maxHeartbeats 4000000 in
theorem wr_boundLoop (n : Nat) (hn : 4294967297 < n) {l W : Nat} {x1 w : Int32} {s z z1 : wt_St} (bs : wu_BS 40 s z) (hW : (wt_gf z 108 40).toInt = (W : Int)) (h10 : W ≤ 10) (hx : x1.toInt = (l : Int)) (hl : l < 26) (hw : 0 ≤ w.toInt) (f : wt_fr (fun _ _ => False) (fun i => i = 287 ∨ i = 320) z z1) (ur : wu_UR s z1 l W 0) : wt_HH (wt_it (wp_wk_boundBy_B17 n x1) n (w, (0 : Int32), (0 : Int32), (0 : Int32), s)) (wt_it (wp_md_boundOf_B114 n) n (w, (0 : Int32), (0 : Int32), z1)) (fun q y => q.1 = y.1 ∧ q.2 = s ∧ wt_fr (fun _ _ => False) (fun i => i = 287 ∨ i = 320) z y.2) := by
  have k0 : (0 : Int32).toInt = 0 := by decide
  have e3 : Int32.toNatClampNeg (3 : Int32) = 3 := by decide
  obtain ⟨W', -, W1, W2, W3⟩ := wu_BS_W bs
  have eW : W' = W := by omega
  rw [eW] at W1 W3
  refine wt_HH_it (fun (t : Int32 × Int32 × Int32 × Int32 × wt_St) (u : Int32 × Int32 × Int32 × wt_St) => (t.1 = u.1 ∧ 0 ≤ u.1.toInt) ∧ t.2.1 = u.2.1 ∧ t.2.2.2.1 = u.2.2.1 ∧ t.2.2.2.2 = s ∧ wt_fr (fun _ _ => False) (fun i => i = 287 ∨ i = 320) z u.2.2.2 ∧ wu_UR s u.2.2.2 l W t.2.2.1) (fun K17 K114 t u I hK => ?_) n n _ _ ⟨⟨rfl, hw⟩, rfl, rfl, rfl, f, ur⟩
  obtain ⟨⟨i1, i1b⟩, i2, i3, i4, fu, ru⟩ := I
  unfold wp_wk_boundBy_B17 wp_md_boundOf_B114
  have e8 : wt_gf s 39 8 = wt_gf z 108 40 := wt_eqI (by omega)
  rw [i1, i2, i3, i4, fu.1 108 40 (fun h => h), e8]
  by_cases c : wt_gf z 108 40 ≤ u.2.2.1
  · rw [if_pos c, if_pos c]
    exact wt_HH_some ⟨rfl, rfl, fu⟩
  · rw [if_neg c, if_neg c]
    unfold wp_wk_dearestOf
    refine wt_HH_itb (fun (p r : Int32 × Int32 × wt_St) => p.1 = r.1 ∧ p.2.1 = r.2.1 ∧ p.2.2 = s ∧ r.2.2 = u.2.2.2 ∧ (0 ≤ r.2.1.toInt ∧ r.2.1.toInt ≤ (W : Int)) ∧ (r.1 = -1 ∨ ((0 ≤ r.1.toInt ∧ r.1.toInt < (W : Int)) ∧ wt_ga u.2.2.2 320 (Int32.toNatClampNeg r.1) = wu_ui s l (Int32.toNatClampNeg r.1)))) (fun K5 K129 p r J hK2 => ?_) n n _ _ ⟨rfl, rfl, rfl, rfl, ⟨by show 0 ≤ ((0 : Int32)).toInt; omega, by show ((0 : Int32)).toInt ≤ _; omega⟩, Or.inl rfl⟩
    obtain ⟨j1, j2, j3, j4, ⟨j5, j6⟩, j7⟩ := J
    have ej := wt_tnI j5
    unfold wp_wk_dearestOf_B5 wp_md_boundOf_B129
    rw [j1, j2, j3, j4, fu.1 108 40 (fun h => h), e8, e3]
    by_cases d : wt_gf z 108 40 ≤ r.2.1
    · rw [if_pos d, if_pos d]
      refine wt_HH_gr (fun gd => ?_)
      have gd' := wt_ixn gd
      rcases j7 with j7 | ⟨⟨j8, j9⟩, j10⟩
      · rw [j7, wt_lm1] at gd'
        omega
      · have eb := wt_tnI j8
        show wt_HH (if r.1 = (-1 : Int32) then some (u.2.1, s) else (wp_wk_printsOf n r.1 x1 s).bind fun q5 => (wp_ap_look n 47 r.1 q5.2).bind fun q6 => if q5.1 ≤ u.1 then wp_wk_boundBy_B99 n x1 u.1 u.2.1 (t.2.2.1 ||| ((1 : Int32) <<< (r.1 &&& 31))) u.2.2.1 q5.1 q6.1 K17 q6.2 else if q5.1 ≤ 0 then wp_wk_boundBy_B99 n x1 u.1 u.2.1 (t.2.2.1 ||| ((1 : Int32) <<< (r.1 &&& 31))) u.2.2.1 q5.1 q6.1 K17 q6.2 else if q5.1 = 0 then none else some ((u.2.1 + ((q6.1 * u.1) / q5.1)), q6.2)) _ _
        rw [if_neg (show ¬ r.1 = (-1 : Int32) from fun h => by rw [h, wt_lm1] at j8; omega)]
        obtain ⟨ub1, ub2⟩ := wu_ui_bd bs (l := l) (k := Int32.toNatClampNeg r.1) hW hl (by omega)
        refine wt_HH_l (wh_printsOf n hn (k := Int32.toNatClampNeg r.1) eb.symm (by omega) hx hl ub1) (fun q5 h5 => ?_)
        subst h5
        dsimp only
        refine wt_HH_l (wh_look n hn (k := Int32.toNatClampNeg r.1) eb.symm (by rw [show wt_ln 47 = 10 from by decide]; omega)) (fun q6 h6 => ?_)
        subst h6
        dsimp only
        have w47 : wt_ga s 47 (Int32.toNatClampNeg r.1) = wt_ga u.2.2.2 (264 + Int32.toNatClampNeg r.1) 3 := by
          rw [fu.2 (264 + Int32.toNatClampNeg r.1) (by (try dsimp only); omega)]
          exact (W3 _ (by omega)).2.1
        rw [j10, w47]
        by_cases g : wu_ui s l (Int32.toNatClampNeg r.1) ≤ u.1
        · rw [if_pos g, if_pos g]
          have g' := wt_cle g
          refine wt_HH_gr (fun _ => wt_HH_gr (fun _ => wt_HH_gr (fun _ => wt_HH_gr (fun _ => ?_))))
          unfold wp_wk_boundBy_B99
          obtain ⟨z2, ε⟩ : ∃ o : wt_St, o = wt_sa u.2.2.2 320 (Int32.toNatClampNeg r.1) (-1 : Int32) := ⟨_, rfl⟩
          rw [← ε]
          have es := wt_subE (x := u.1) (y := wu_ui s l (Int32.toNatClampNeg r.1)) (by omega) (by have := wt_bd u.1; omega)
          refine hK _ _ ⟨⟨rfl, by show 0 ≤ (u.1 - wu_ui s l (Int32.toNatClampNeg r.1)).toInt; omega⟩, rfl, rfl, rfl, fu.sa ε (Or.inr rfl), fun k hk => ?_⟩
          show (wu_bt (t.2.2.1 ||| ((1 : Int32) <<< (r.1 &&& 31))) (nI k) ∧ wt_ga z2 320 k = wu_ui s l k) ∨ (¬ wu_bt (t.2.2.1 ||| ((1 : Int32) <<< (r.1 &&& 31))) (nI k) ∧ wt_ga z2 320 k = (-1 : Int32))
          have er : r.1 = nI (Int32.toNatClampNeg r.1) := wt_nIt j8
          by_cases x : k = Int32.toNatClampNeg r.1
          · refine Or.inr ⟨fun h => ?_, by rw [x]; exact wt_v_sa ε⟩
            rw [er] at h
            exact ((wu_bt_or (by omega) (by omega)).mp h).2 x
          · rw [wt_w_sa ε k x]
            rcases ru k hk with ⟨a, b⟩ | ⟨a, b⟩
            · refine Or.inl ⟨?_, b⟩
              rw [er]
              exact (wu_bt_or (by omega) (by omega)).mpr ⟨a, x⟩
            · refine Or.inr ⟨fun h => ?_, b⟩
              rw [er] at h
              exact a ((wu_bt_or (by omega) (by omega)).mp h).1
        · rw [if_neg g, if_neg g]
          have g' := wt_ncle g
          rw [if_neg (show ¬ wu_ui s l (Int32.toNatClampNeg r.1) ≤ 0 from fun h => by have := wt_cle h; omega)]
          refine wt_HH_gl (fun nz => ?_)
          refine wt_HH_gr (fun _ => wt_HH_gr (fun _ => wt_HH_gr (fun _ => ?_)))
          rw [if_neg nz]
          exact wt_HH_some ⟨rfl, rfl, fu⟩
    · rw [if_neg d, if_neg d]
      have d' := wt_ncle d
      have ei := wt_i1 (c := r.2.1) (by omega)
      have ek : r.2.1 = nI (Int32.toNatClampNeg r.2.1) := wt_nIt j5
      refine wt_HH_gr (fun _ => ?_)
      unfold wp_wk_dearestOf_B75 wp_wk_dearestOf_B78 wp_md_boundOf_B194 wp_md_boundOf_B201 wp_md_boundOf_B203
      have NX : ∀ v : Int32, (v = -1 ∨ ((0 ≤ v.toInt ∧ v.toInt < (W : Int)) ∧ wt_ga u.2.2.2 320 (Int32.toNatClampNeg v) = wu_ui s l (Int32.toNatClampNeg v))) → wt_HH ((K5 (v, (r.2.1 + (1 : Int32)), s)).bind fun q3 => if q3.1 = (-1 : Int32) then some (u.2.1, q3.2) else (wp_wk_printsOf n q3.1 x1 q3.2).bind fun q5 => (wp_ap_look n 47 q3.1 q5.2).bind fun q6 => if q5.1 ≤ u.1 then wp_wk_boundBy_B99 n x1 u.1 u.2.1 (t.2.2.1 ||| ((1 : Int32) <<< (q3.1 &&& 31))) u.2.2.1 q5.1 q6.1 K17 q6.2 else if q5.1 ≤ 0 then wp_wk_boundBy_B99 n x1 u.1 u.2.1 (t.2.2.1 ||| ((1 : Int32) <<< (q3.1 &&& 31))) u.2.2.1 q5.1 q6.1 K17 q6.2 else if q5.1 = 0 then none else some ((u.2.1 + ((q6.1 * u.1) / q5.1)), q6.2)) (K129 (v, (r.2.1 + (1 : Int32)), u.2.2.2)) (fun q y => q.1 = y.1 ∧ q.2 = s ∧ wt_fr (fun _ _ => False) (fun i => i = 287 ∨ i = 320) z y.2) := fun v hv => hK2 _ _ ⟨rfl, rfl, rfl, rfl, ⟨by show 0 ≤ (r.2.1 + (1 : Int32)).toInt; omega, by show (r.2.1 + (1 : Int32)).toInt ≤ _; omega⟩, hv⟩
      rcases ru (Int32.toNatClampNeg r.2.1) (by omega) with ⟨a, b⟩ | ⟨a, b⟩
      · have a' : wu_bt t.2.2.1 r.2.1 := by rw [ek]; exact a
        obtain ⟨ub1, ub2⟩ := wu_ui_bd bs (l := l) (k := Int32.toNatClampNeg r.2.1) hW hl (by omega)
        rw [if_pos (show ((t.2.2.1 >>> (r.2.1 &&& 31)) &&& (1 : Int32)) = 0 from a'), if_pos (show (0 : Int32) ≤ wt_ga u.2.2.2 320 (Int32.toNatClampNeg r.2.1) by rw [b]; exact Int32.le_iff_toInt_le.mpr (by omega))]
        rcases j7 with j7 | ⟨⟨j8, j9⟩, j10⟩
        · rw [if_pos j7, if_pos j7]
          exact NX _ (Or.inr ⟨⟨j5, by omega⟩, b⟩)
        · have nb : ¬ r.1 = (-1 : Int32) := fun h => by rw [h, wt_lm1] at j8; omega
          rw [if_neg nb, if_neg nb]
          have eb := wt_tnI j8
          obtain ⟨vb1, vb2⟩ := wu_ui_bd bs (l := l) (k := Int32.toNatClampNeg r.1) hW hl (by omega)
          refine wt_HH_gr (fun _ => wt_HH_gr (fun _ => wt_HH_gr (fun _ => wt_HH_gr (fun _ => wt_HH_gr (fun _ => wt_HH_gr (fun _ => ?_))))))
          refine wt_HH_lb (wh_look n hn (k := Int32.toNatClampNeg r.2.1) ej.symm (by rw [show wt_ln 47 = 10 from by decide]; omega)) (fun q4 h4 => ?_)
          subst h4
          dsimp only
          refine wt_HH_lb (wh_printsOf n hn (k := Int32.toNatClampNeg r.1) eb.symm (by omega) hx hl vb1) (fun q5 h5 => ?_)
          subst h5
          dsimp only
          refine wt_HH_lb (wh_look n hn (k := Int32.toNatClampNeg r.1) eb.symm (by rw [show wt_ln 47 = 10 from by decide]; omega)) (fun q6 h6 => ?_)
          subst h6
          dsimp only
          refine wt_HH_lb (wh_printsOf n hn (k := Int32.toNatClampNeg r.2.1) ej.symm (by omega) hx hl ub1) (fun q7 h7 => ?_)
          subst h7
          dsimp only
          have w47 : ∀ k, k < W → wt_ga u.2.2.2 (264 + k) 3 = wt_ga s 47 k := fun k hk => by
            rw [fu.2 (264 + k) (by (try dsimp only); omega)]
            exact (W3 _ hk).2.1.symm
          rw [j10, b, w47 _ (show Int32.toNatClampNeg r.1 < W by omega), w47 _ (show Int32.toNatClampNeg r.2.1 < W by omega)]
          by_cases g : wt_ga s 47 (Int32.toNatClampNeg r.2.1) * wu_ui s l (Int32.toNatClampNeg r.1) ≤ wt_ga s 47 (Int32.toNatClampNeg r.1) * wu_ui s l (Int32.toNatClampNeg r.2.1)
          · rw [if_pos g, if_pos g]
            exact NX _ (Or.inr ⟨⟨j8, j9⟩, j10⟩)
          · rw [if_neg g, if_neg g]
            exact NX _ (Or.inr ⟨⟨j5, by omega⟩, b⟩)
      · have a' : ¬ wu_bt t.2.2.1 r.2.1 := by rw [ek]; exact a
        rw [if_neg (show ¬ ((t.2.2.1 >>> (r.2.1 &&& 31)) &&& (1 : Int32)) = 0 from a'), if_neg (show ¬ (0 : Int32) ≤ wt_ga u.2.2.2 320 (Int32.toNatClampNeg r.2.1) by rw [b]; exact fun h => by have := wt_cle h; rw [wt_lm1] at this; omega)]
        exact NX _ j7
/-! what each needs is laid out, behind the prints that are there -/
set_option maxHeartbeats 2000000 in
theorem wr_boundBy (n : Nat) (hn : 4294967297 < n) {l : Nat} {x1 : Int32} {s z : wt_St} (bs : wu_BS 40 s z) (hx : x1.toInt = (l : Int)) (hl : l < 26) : wt_HH (wp_wk_boundBy n x1 s) (wp_md_boundOf n x1 z) (fun q y => q.1 = y.1 ∧ q.2 = s ∧ wt_fr (fun _ _ => False) (fun i => i = 287 ∨ i = 320) z y.2) := by
  have k0 : (0 : Int32).toInt = 0 := by decide
  have e0 : Int32.toNatClampNeg (0 : Int32) = 0 := by decide
  have e1 : Int32.toNatClampNeg (1 : Int32) = 1 := by decide
  have ex := wt_tnN hx
  obtain ⟨W, h10, W1, W2, W3⟩ := wu_BS_W bs
  obtain ⟨r, sk, to, tx, ww, hb⟩ := bs
  have g111 : 0 ≤ (wt_ga z 111 l).toInt ∧ (wt_ga z 111 l).toInt ≤ 12 := by
    have := (sk l hl).2.1
    rw [(sk l hl).1] at this
    exact this
  have em := wt_tnI g111.1
  unfold wp_wk_boundBy wp_md_boundOf
  refine wt_HH_l (wh_leftInCase n hn r sk hx hl) (fun q1 h1 => ?_)
  obtain ⟨h1a, h1b⟩ := h1
  rw [h1a]
  have lb : ∀ k, 0 ≤ wu_ls0 z l k ∧ wu_ls0 z l k ≤ 400 * (k : Int) := fun k => wt_sum_bd k (fun i _ => wu_lf_bd r l i)
  -- the reference's prints
  refine wt_HH_itr (fun u : Int32 × Int32 × wt_St => u.2.2 = z ∧ (0 ≤ u.2.1.toInt ∧ u.2.1.toInt ≤ (wt_ga z 111 l).toInt) ∧ u.1.toInt = wu_ls0 z l (Int32.toNatClampNeg u.2.1)) (fun K u I hK => ?_) n _ ⟨rfl, ⟨by show 0 ≤ ((0 : Int32)).toInt; omega, by show ((0 : Int32)).toInt ≤ _; omega⟩, by show ((0 : Int32)).toInt = wu_ls0 z l (Int32.toNatClampNeg (0 : Int32)); rw [wt_tn0, k0]; rfl⟩
  obtain ⟨i0, ⟨i1, i2⟩, i3⟩ := I
  have eu := wt_tnI i1
  unfold wp_md_boundOf_B10
  rw [i0, ex]
  refine wt_HH_gr (fun _ => wt_HH_ir (fun c => ?_) (fun c => ?_))
  · have c' := wt_cle c
    have same : q1.1 = u.1 := wt_eqI (by rw [h1b, i3, show Int32.toNatClampNeg u.2.1 = Int32.toNatClampNeg (wt_ga z 111 l) by omega])
    have wnn : 0 ≤ q1.1.toInt := by
      rw [h1b]
      exact (lb _).1
    rw [← same]
    -- what each needs
    refine wt_HH_itr (fun p : Int32 × wt_St => (0 ≤ p.1.toInt ∧ p.1.toInt ≤ (W : Int)) ∧ wt_RI p.2 ∧ wt_fr (fun _ _ => False) (fun i => i = 287 ∨ i = 320) z p.2 ∧ ∀ k : Nat, (k : Int) < p.1.toInt → wt_ga p.2 320 k = wu_ui s l k) (fun K2 p J hK2 => ?_) n _ ⟨⟨by show 0 ≤ ((0 : Int32)).toInt; omega, by show ((0 : Int32)).toInt ≤ _; omega⟩, r, wt_fr.rf, fun k hk => absurd (show (k : Int) < ((0 : Int32)).toInt from hk) (by omega)⟩
    obtain ⟨⟨j0, j1⟩, rp, fp, j2⟩ := J
    have ep := wt_tnI j0
    unfold wp_md_boundOf_B63
    rw [fp.1 108 40 (fun h => h)]
    refine wt_HH_ir (fun d => ?_) (fun d => ?_)
    · have d' := wt_cle d
      exact wr_boundLoop n hn ⟨r, sk, to, tx, ww, hb⟩ W2 h10 hx hl wnn fp (fun k hk => Or.inl ⟨wu_bt0 _, j2 k (by omega)⟩)
    · have d' := wt_ncle d
      have ei := wt_i1 (c := p.1) (by omega)
      rw [e0, e1, ex]
      refine wt_HH_gr (fun _ => wt_HH_gr (fun _ => ?_))
      have gw := (wt_R_w rp (264 + Int32.toNatClampNeg p.1) (by omega) (by omega)).1
      refine wt_HH_r (wq_md_needsText n hn _ p.2 rp gw.1 gw.2).h (fun q28 h28 => ?_)
      obtain ⟨f28, r28, -, v28⟩ := h28
      refine wt_HH_gr (fun _ => wt_HH_gr (fun _ => wt_HH_gr (fun _ => wt_HH_gr (fun _ => ?_))))
      obtain ⟨z2, ε⟩ : ∃ o : wt_St, o = wt_sa q28 320 (Int32.toNatClampNeg p.1) ((wt_ga q28 287 l) * (wt_ga q28 (264 + Int32.toNatClampNeg p.1) 1)) := ⟨_, rfl⟩
      rw [← ε]
      obtain ⟨w1, w2, w3⟩ := ww
      obtain ⟨⟨t0, t1, -, -⟩, ⟨b0, b1⟩, -⟩ := w3 (Int32.toNatClampNeg p.1) (by rw [w1]; omega)
      have t0' : wt_ga s 44 (Int32.toNatClampNeg p.1) = wt_ga z (264 + Int32.toNatClampNeg p.1) 0 := t0
      have t1' : wt_ga s 45 (Int32.toNatClampNeg p.1) = wt_ga z (264 + Int32.toNatClampNeg p.1) 1 := t1
      have et := wt_tnI b0
      have X := tx.2 (Int32.toNatClampNeg (wt_ga s 44 (Int32.toNatClampNeg p.1))) (by omega)
      obtain ⟨-, -, -, -, -, -, tn6⟩ := X
      have hz : 0 ≤ (wt_gf z 108 39).toInt ∧ (wt_gf z 108 39).toInt ≤ 8 := wt_Rf7 r
      have ui : (wt_ga q28 287 l) * (wt_ga q28 (264 + Int32.toNatClampNeg p.1) 1) = wu_ui s l (Int32.toNatClampNeg p.1) := by
        unfold wu_ui
        have a1 : wt_ga q28 (264 + Int32.toNatClampNeg p.1) 1 = wt_ga s 45 (Int32.toNatClampNeg p.1) := by
          rw [f28.2 _ (by omega), fp.2 _ (by omega), t1']
        have a2 : wt_ga q28 287 l = wt_ga s 37 (26 * Int32.toNatClampNeg (wt_ga s 44 (Int32.toNatClampNeg p.1)) + l) := by
          refine wt_eqI ?_
          rw [v28 l hl, tn6 l hl, fp.2 _ (by omega), ← t0']
          exact wt_nt_fr r (by omega) (fun i hi j => fp.2 i (by unfold wt_PA at hi; (try dsimp only); omega) j)
        rw [a1, a2]
      have r2 : wt_RI z2 := wt_RI_no r28 ε 320 321 (by decide +kernel) (by decide) (by decide)
      refine hK2 _ ⟨⟨by show 0 ≤ (p.1 + (1 : Int32)).toInt; omega, by show (p.1 + (1 : Int32)).toInt ≤ _; omega⟩, r2, (fp.tr (f28.wk (fun _ _ h => h) (fun _ h => Or.inl h)) (fun _ _ h => h) (fun _ h => h)).sa ε (Or.inr rfl), fun k hk => ?_⟩
      have hk' : (k : Int) < (p.1 + (1 : Int32)).toInt := hk
      show wt_ga z2 320 k = _
      by_cases x : k = Int32.toNatClampNeg p.1
      · rw [x, wt_v_sa ε]
        exact ui
      · rw [wt_w_sa ε k x, f28.2 320 (by decide)]
        exact j2 k (by omega)
  · have c' := wt_ncle c
    have ei := wt_i1 (c := u.2.1) (by omega)
    have en : Int32.toNatClampNeg (u.2.1 + (1 : Int32)) = Int32.toNatClampNeg u.2.1 + 1 := by have := wt_tnI (x := u.2.1 + (1 : Int32)) (by omega); omega
    have sb := lb (Int32.toNatClampNeg u.2.1)
    have l1 := wu_lf_bd r l (Int32.toNatClampNeg u.2.1)
    have B : ∀ y : Int32, y.toInt = wu_lf z l (Int32.toNatClampNeg u.2.1) → ∀ zz : wt_St, zz = z → wt_HH (wt_it (wp_wk_boundBy_B17 n x1) n (q1.1, (0 : Int32), (0 : Int32), (0 : Int32), s)) (wp_md_boundOf_B52 n x1 (0 : Int32) (0 : Int32) u.2.1 K u.1 y zz) (fun q y => q.1 = y.1 ∧ q.2 = s ∧ wt_fr (fun _ _ => False) (fun i => i = 287 ∨ i = 320) z y.2) := fun y hy zz hzz => by
      have ea := wt_addE (x := u.1) (y := y) (by omega) (by omega)
      unfold wp_md_boundOf_B52
      refine hK _ ⟨hzz, ⟨by show 0 ≤ (u.2.1 + (1 : Int32)).toInt; omega, by show (u.2.1 + (1 : Int32)).toInt ≤ _; omega⟩, ?_⟩
      show (u.1 + y).toInt = wu_ls0 z l (Int32.toNatClampNeg (u.2.1 + (1 : Int32)))
      rw [en, ea, i3, hy]
      rfl
    refine wt_HH_r (wh_cell n hx (i := Int32.toNatClampNeg u.2.1) eu.symm hl (by omega)) (fun y3 g3 => ?_)
    obtain ⟨g3a, g3b⟩ := g3
    rw [g3a, wt_tnN g3b]
    refine wt_HH_gr (fun _ => wt_HH_ir (fun o => ?_) (fun o => ?_))
    · refine wt_HH_r (wh_cell n hx (i := Int32.toNatClampNeg u.2.1) eu.symm hl (by omega)) (fun y4 g4 => ?_)
      obtain ⟨g4a, g4b⟩ := g4
      rw [g4a, wt_tnN g4b]
      refine wt_HH_gr (fun _ => B _ ?_ z rfl)
      unfold wu_lf
      rw [if_pos ((wt_ceq o).trans wt_lm1)]
    · refine B _ ?_ z rfl
      unfold wu_lf
      rw [if_neg (fun h => o (wt_eqI (h.trans wt_lm1.symm))), k0]
set_option maxHeartbeats 1000000 in
theorem wr_bound (n : Nat) (hn : 4294967297 < n) {s z : wt_St} (v : wt_IV z) (rl : wu_RL s z) : wt_HH (wp_ap_bound n s) (wp_md_bound n z) (fun q y => q.1 = y.1) := by
  have k0 : (0 : Int32).toInt = 0 := by decide
  have k1 : (1 : Int32).toInt = 1 := by decide
  have k26 : (26 : Int32).toInt = 26 := by decide
  unfold wp_ap_bound wp_md_bound
  rw [wu_bind_eta]
  unfold wp_wk_leastBound
  obtain ⟨z0, ε0⟩ : ∃ o : wt_St, o = wt_sf z 108 0 (0 : Int32) := ⟨_, rfl⟩
  rw [← ε0]
  have g0 := wt_fr_sf ε0
  have r0 : wt_RI z0 := wt_RI_fno v.1 ε0 (Or.inr (by decide +kernel))
  have bs := wu_BS_of r0 (wu_RL_z0 rl v.1 g0)
  have BS : ∀ z', wt_RI z' → wt_fr (fun _ _ => False) (fun i => i = 287 ∨ i = 320) z0 z' → wu_BS 40 s z' := fun z' r f => wu_BS_fr bs (wt_fr.rf : wu_fC s s) (f.wk (fun _ _ h => h.elim) (fun _ h => by omega)) r (wu_SK_fr bs.2.1 (wt_fr.rf (F := fun _ _ => False) (A := fun _ => False)) f ⟨fun h => h, fun h => h, fun h => h⟩ ⟨by decide, by decide, by decide⟩)
  refine wt_HH_b (wt_HH_andr (wr_boundBy n hn (l := 0) bs (by rw [k0]; rfl) (by omega)) (wq_md_boundOf n hn (0 : Int32) z0 r0 (by omega) (by omega)).h) (fun q1 y1 h => ?_)
  obtain ⟨⟨e1, e2, f1⟩, -, r1⟩ := h
  refine wt_HH_it (fun (t u : Int32 × Int32 × wt_St) => t.1 = u.1 ∧ t.2.1 = u.2.1 ∧ t.2.2 = s ∧ (0 ≤ u.2.1.toInt ∧ u.2.1.toInt ≤ 26) ∧ wt_RI u.2.2 ∧ wt_fr (fun _ _ => False) (fun i => i = 287 ∨ i = 320) z0 u.2.2) (fun K K' t u I hK => ?_) n n _ _ ⟨e1, rfl, e2, ⟨by show 0 ≤ ((1 : Int32)).toInt; omega, by show ((1 : Int32)).toInt ≤ 26; omega⟩, r1, f1⟩
  obtain ⟨i1, i2, i3, ⟨i4, i5⟩, ru, fu⟩ := I
  have et := wt_tnI i4
  unfold wp_wk_leastBound_B8 wp_md_bound_B13 wp_md_bound_B37
  rw [i1, i2, i3]
  by_cases c : (26 : Int32) ≤ u.2.1
  · rw [if_pos c, if_pos c]
    exact wt_HH_some rfl
  · rw [if_neg c, if_neg c]
    have c' := wt_ncle c
    have ei := wt_i1 (c := u.2.1) (by omega)
    refine wt_HH_b (wt_HH_andl (wt_HH_andr (wr_boundBy n hn (l := Int32.toNatClampNeg u.2.1) (BS _ ru fu) et.symm (by omega)) (wq_md_boundOf n hn u.2.1 u.2.2 ru i4 (by omega)).h) (wt_H_self _)) (fun q3 y3 h => ?_)
    obtain ⟨⟨⟨e1, e2, f3⟩, -, r3⟩, self⟩ := h
    have F3 := wt_fr.tr fu f3 (fun _ _ h => h) (fun _ h => h)
    rw [e2]
    refine wt_HH_ir (fun d => ?_) (fun d => ?_)
    · have d' := wt_cle d
      rw [if_neg (show ¬ q3.1 < u.1 from fun h => by have := wt_clt h; rw [e1] at this; omega)]
      exact hK _ _ ⟨rfl, rfl, rfl, ⟨by show 0 ≤ (u.2.1 + (1 : Int32)).toInt; omega, by show (u.2.1 + (1 : Int32)).toInt ≤ 26; omega⟩, r3, F3⟩
    · have d' := wt_ncle d
      rw [if_pos (show q3.1 < u.1 from Int32.lt_iff_toInt_lt.mpr (by rw [e1]; omega))]
      have again : wt_H (wp_md_boundOf n u.2.1 y3.2) (fun y5 => (q3.1 = y5.1 ∧ q3.2 = s ∧ wt_fr (fun _ _ => False) (fun i => i = 287 ∨ i = 320) y3.2 y5.2) ∧ wt_RI y5.2) := fun y5 h5 => ⟨wr_boundBy n hn (l := Int32.toNatClampNeg u.2.1) (BS _ r3 F3) et.symm (by omega) q3 y5 self h5, ((wq_md_boundOf n hn u.2.1 y3.2 r3 i4 (by omega)).h y5 h5).2⟩
      refine wt_HH_r again (fun y5 h5 => ?_)
      obtain ⟨⟨a1, -, f5⟩, r5⟩ := h5
      exact hK _ _ ⟨a1, rfl, rfl, ⟨by show 0 ≤ (u.2.1 + (1 : Int32)).toInt; omega, by show (u.2.1 + (1 : Int32)).toInt ≤ 26; omega⟩, r5, wt_fr.tr F3 f5 (fun _ _ h => h) (fun _ h => h)⟩
