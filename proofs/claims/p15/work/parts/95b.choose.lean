/-! the next piece that the habit takes, on both sides -/
def wu_bt (xt i : Int32) : Prop := ((xt >>> (i &&& (31 : Int32))) &&& (1 : Int32)) = 0
theorem wu_bt0 (i : Int32) : wu_bt 0 i := by
  unfold wu_bt
  simp
theorem wh_cell (n : Nat) {l i : Nat} {x y : Int32} {z : wt_St} (hx : x.toInt = (l : Int)) (hy : y.toInt = (i : Int)) (hl : l < 26) (hi : i < 13) : wt_H (wp_md_cell n x y z) (fun q => q.2 = z ∧ q.1.toInt = ((13 * l + i : Nat) : Int)) := by
  have k13 : (13 : Int32).toInt = 13 := by decide
  have em := wt_mulL (x := (13 : Int32)) (y := x) k13 (by omega) (by omega)
  have ea := wt_addE (x := (13 : Int32) * x) (y := y) (by omega) (by omega)
  unfold wp_md_cell
  exact wt_H_some ⟨rfl, by (try dsimp only); omega⟩
theorem wt_nIt {x : Int32} (h : 0 ≤ x.toInt) : x = nI (Int32.toNatClampNeg x) := by
  have e := wt_tnI h
  have b := wt_bd x
  exact wt_eqI (by rw [nI_toInt (by omega)]; omega)
set_option maxRecDepth 100000 in
set_option maxHeartbeats 8000000 in
theorem wr_choose (n : Nat) (hn : 4294967297 < n) {a l m : Nat} {x1 x2 xt : Int32} {s z : wt_St} (ha : wt_ln a = 312) (hx : x1.toInt = (l : Int)) (hl : l < 26) (hm : (wt_ga s 5 l).toInt = (m : Int)) (hm2 : (wt_ga z 111 l).toInt = (m : Int)) (hm12 : m ≤ 12) (hh : wt_gf s 39 9 = wt_gf z 108 26) (hav : ∀ i, i < m → ((wu_bt xt (nI i) ∧ (wt_ga s 41 (12 * l + i)).toInt = -1) ↔ (wt_ga z 124 (13 * l + i)).toInt = -1) ∧ ((wt_ga z 124 (13 * l + i)).toInt = -1 → wt_ga s a (12 * l + i) = wt_ga z 121 (13 * l + i))) : wt_HH (wp_sk_choose n a x1 x2 xt s) (wp_md_nextPiece n x1 x2 z) (fun q y => q.2 = s ∧ y.2 = z ∧ ((q.1 = -1 ∧ y.1 = -1) ∨ ∃ i, i < m ∧ q.1.toInt = ((12 * l + i : Nat) : Int) ∧ y.1.toInt = ((13 * l + i : Nat) : Int) ∧ (wt_ga z 124 (13 * l + i)).toInt = -1 ∧ x2.toInt ≤ (wt_ga z 121 (13 * l + i)).toInt)) := by
  have k0 : (0 : Int32).toInt = 0 := by decide
  have etl : Int32.toNatClampNeg x1 = l := wt_tnN hx
  unfold wp_sk_choose wp_md_nextPiece
  refine wt_HH_it (fun (t : Int32 × Int32 × wt_St) (u : Int32 × Int32 × wt_St) => t.2.2 = s ∧ u.2.2 = z ∧ u.2.1 = t.2.1 ∧ 0 ≤ t.2.1.toInt ∧ t.2.1.toInt ≤ (m : Int) ∧ ((t.1 = -1 ∧ u.1 = -1) ∨ ∃ i, i < m ∧ t.1.toInt = ((12 * l + i : Nat) : Int) ∧ u.1.toInt = ((13 * l + i : Nat) : Int) ∧ (wt_ga z 124 (13 * l + i)).toInt = -1 ∧ x2.toInt ≤ (wt_ga z 121 (13 * l + i)).toInt)) (fun K K' t u I hK => ?_) n n _ _ ⟨rfl, rfl, rfl, by show 0 ≤ ((0 : Int32)).toInt; omega, by show ((0 : Int32)).toInt ≤ _; omega, Or.inl ⟨rfl, rfl⟩⟩
  obtain ⟨i0, j0, i1, i2, i3, i4⟩ := I
  have et := wt_tnI i2
  unfold wp_sk_choose_B6 wp_md_nextPiece_B5
  rw [i0, j0, i1, etl]
  refine wt_HH_l (wh_pieces n hn hx hl) (fun q1 h1 => ?_)
  subst h1
  dsimp only
  refine wt_HH_gr (fun _ => ?_)
  by_cases hc : (m : Int) ≤ t.2.1.toInt
  · rw [if_pos (Int32.le_iff_toInt_le.mpr (by omega)), if_pos (Int32.le_iff_toInt_le.mpr (by omega))]
    exact wt_HH_some ⟨rfl, rfl, i4⟩
  · rw [if_neg (fun h => by have := wt_cle h; omega), if_neg (fun h => by have := wt_cle h; omega)]
    have ei := wt_i1 (c := t.2.1) (by omega)
    have ep := wt_piece hx hl i2 (by omega)
    obtain ⟨av1, av2⟩ := hav (Int32.toNatClampNeg t.2.1) (by omega)
    rw [← wt_nIt i2] at av1
    -- none is changed for it, or it is the new one
    have NO : wt_HH (wp_sk_choose_B83 n a x1 x2 xt t.1 t.2.1 K s) (wp_md_nextPiece_B99 n x1 x2 u.1 t.2.1 K' z) (fun q y => q.2 = s ∧ y.2 = z ∧ ((q.1 = -1 ∧ y.1 = -1) ∨ ∃ i, i < m ∧ q.1.toInt = ((12 * l + i : Nat) : Int) ∧ y.1.toInt = ((13 * l + i : Nat) : Int) ∧ (wt_ga z 124 (13 * l + i)).toInt = -1 ∧ x2.toInt ≤ (wt_ga z 121 (13 * l + i)).toInt)) := by
      unfold wp_sk_choose_B83 wp_md_nextPiece_B99
      exact hK _ _ ⟨rfl, rfl, rfl, by show 0 ≤ (t.2.1 + (1 : Int32)).toInt; omega, by show (t.2.1 + (1 : Int32)).toInt ≤ _; omega, i4⟩
    have YES : ∀ v w : Int32, v.toInt = ((12 * l + Int32.toNatClampNeg t.2.1 : Nat) : Int) → w.toInt = ((13 * l + Int32.toNatClampNeg t.2.1 : Nat) : Int) → (wt_ga z 124 (13 * l + Int32.toNatClampNeg t.2.1)).toInt = -1 → x2.toInt ≤ (wt_ga z 121 (13 * l + Int32.toNatClampNeg t.2.1)).toInt → wt_HH (wp_sk_choose_B79 n a x1 x2 xt t.2.1 v K s) (wp_md_nextPiece_B96 n x1 x2 t.2.1 w K' z) (fun q y => q.2 = s ∧ y.2 = z ∧ ((q.1 = -1 ∧ y.1 = -1) ∨ ∃ i, i < m ∧ q.1.toInt = ((12 * l + i : Nat) : Int) ∧ y.1.toInt = ((13 * l + i : Nat) : Int) ∧ (wt_ga z 124 (13 * l + i)).toInt = -1 ∧ x2.toInt ≤ (wt_ga z 121 (13 * l + i)).toInt)) := by
      intro v w hv hw ho hle
      unfold wp_sk_choose_B79 wp_md_nextPiece_B96 wp_sk_choose_B83 wp_md_nextPiece_B99
      exact hK _ _ ⟨rfl, rfl, rfl, by show 0 ≤ (t.2.1 + (1 : Int32)).toInt; omega, by show (t.2.1 + (1 : Int32)).toInt ≤ _; omega, Or.inr ⟨Int32.toNatClampNeg t.2.1, by omega, hv, hw, ho, hle⟩⟩
    refine wt_HH_l (wh_look n hn (k := 12 * l + Int32.toNatClampNeg t.2.1) (by omega) (by omega)) (fun q3 h3 => ?_)
    subst h3
    dsimp only
    refine wt_HH_r (wh_cell n hx (i := Int32.toNatClampNeg t.2.1) (by omega) hl (by omega)) (fun y3 g3 => ?_)
    obtain ⟨g3a, g3b⟩ := g3
    have e3 : Int32.toNatClampNeg y3.1 = 13 * l + Int32.toNatClampNeg t.2.1 := wt_tnN g3b
    rw [g3a, e3]
    refine wt_HH_gr (fun _ => ?_)
    by_cases hon : (wt_ga z 124 (13 * l + Int32.toNatClampNeg t.2.1)).toInt = -1
    · obtain ⟨b1, b2⟩ := av1.mpr hon
      have el := av2 hon
      rw [if_pos (show ((xt >>> (t.2.1 &&& (31 : Int32))) &&& (1 : Int32)) = 0 from b1), if_pos (wt_eqI (hon.trans wt_lm1.symm))]
      refine wt_HH_l (wh_lies n hn (j := 12 * l + Int32.toNatClampNeg t.2.1) (by omega) (by omega)) (fun q5 h5 => ?_)
      obtain ⟨e5, h5⟩ := h5
      rw [e5]
      rcases h5 with ⟨h5, -⟩ | ⟨-, h5⟩
      · rw [if_neg (by rw [h5]; decide)]
        refine wt_HH_gr (fun _ => ?_)
        rw [el]
        by_cases hle : x2.toInt ≤ (wt_ga z 121 (13 * l + Int32.toNatClampNeg t.2.1)).toInt
        · rw [if_neg (fun h => by have := wt_clt h; omega), if_pos (Int32.le_iff_toInt_le.mpr hle)]
          rcases i4 with ⟨c1, c2⟩ | ⟨ib, c1, c2, c3, c4, c5⟩
          · rw [if_pos c1, if_pos c2]
            exact YES _ _ ep g3b hon hle
          · rw [if_neg (fun h => by have := wt_ceq h; rw [wt_lm1] at this; omega), if_neg (fun h => by have := wt_ceq h; rw [wt_lm1] at this; omega)]
            have eu : Int32.toNatClampNeg u.1 = 13 * l + ib := wt_tnN c3
            have eb := (hav ib c1).2 c4
            refine wt_HH_l (wh_look n hn (k := 12 * l + ib) c2 (by omega)) (fun q9 h9 => ?_)
            subst h9
            dsimp only
            rw [eb, eu]
            unfold wp_sk_comesFirst
            rw [hh]
            refine wt_HH_ir (fun d => ?_) (fun d => ?_)
            · rw [if_pos d]
              refine wt_HH_gr (fun _ => ?_)
              refine wt_HH_gr (fun _ => ?_)
              refine wt_HH_ir (fun f => ?_) (fun f => ?_)
              · rw [if_pos f]
                show wt_HH (if (0 : Int32) = 0 then wp_sk_choose_B83 n a x1 x2 xt t.1 t.2.1 K s else wp_sk_choose_B79 n a x1 x2 xt t.2.1 ((x1 * (12 : Int32)) + t.2.1) K s) _ _
                rw [if_pos (show (0 : Int32) = 0 from rfl)]
                exact NO
              · rw [if_neg f]
                show wt_HH (if (1 : Int32) = 0 then wp_sk_choose_B83 n a x1 x2 xt t.1 t.2.1 K s else wp_sk_choose_B79 n a x1 x2 xt t.2.1 ((x1 * (12 : Int32)) + t.2.1) K s) _ _
                rw [if_neg (show ¬ (1 : Int32) = 0 by decide)]
                exact YES _ _ ep g3b hon hle
            · rw [if_neg d]
              refine wt_HH_gr (fun _ => ?_)
              refine wt_HH_gr (fun _ => ?_)
              refine wt_HH_ir (fun f => ?_) (fun f => ?_)
              · rw [if_pos f]
                show wt_HH (if (0 : Int32) = 0 then wp_sk_choose_B83 n a x1 x2 xt t.1 t.2.1 K s else wp_sk_choose_B79 n a x1 x2 xt t.2.1 ((x1 * (12 : Int32)) + t.2.1) K s) _ _
                rw [if_pos (show (0 : Int32) = 0 from rfl)]
                exact NO
              · rw [if_neg f]
                show wt_HH (if (1 : Int32) = 0 then wp_sk_choose_B83 n a x1 x2 xt t.1 t.2.1 K s else wp_sk_choose_B79 n a x1 x2 xt t.2.1 ((x1 * (12 : Int32)) + t.2.1) K s) _ _
                rw [if_neg (show ¬ (1 : Int32) = 0 by decide)]
                exact YES _ _ ep g3b hon hle
        · rw [if_pos (Int32.lt_iff_toInt_lt.mpr (by omega)), if_neg (fun h => by have := wt_cle h; omega)]
          exact NO
      · exact absurd b2 h5
    · rw [if_neg (fun h => hon ((wt_ceq h).trans wt_lm1))]
      refine wt_HH_il (fun b1 => ?_) (fun _ => NO)
      refine wt_HH_l (wh_lies n hn (j := 12 * l + Int32.toNatClampNeg t.2.1) (by omega) (by omega)) (fun q5 h5 => ?_)
      obtain ⟨e5, h5⟩ := h5
      rw [e5]
      rcases h5 with ⟨-, h5⟩ | ⟨h5, -⟩
      · exact absurd (av1.mp ⟨b1, h5⟩) hon
      · rw [if_pos h5]
        exact NO
