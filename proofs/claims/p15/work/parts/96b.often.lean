/-! how often something can be set: the class by the letters' reach, the reference by halving -/
theorem wt_go_nn {z : wt_St} {l : Nat} (c : Int) : 0 ≤ wt_go z c l := by
  have h := wt_sum_bd (f := fun i => wt_gf1 z c (13 * l + i)) (c := 1) (Int32.toNatClampNeg (wt_ga z 111 l)) (fun i _ => by
    show 0 ≤ wt_gf1 z c (13 * l + i) ∧ wt_gf1 z c (13 * l + i) ≤ 1
    unfold wt_gf1
    split <;> omega)
  exact h.1
theorem wt_go_anti {z : wt_St} {l : Nat} {c c' : Int} (h : c ≤ c') : wt_go z c' l ≤ wt_go z c l := by
  unfold wt_go
  refine wt_sum_le _ (fun k _ => ?_)
  show wt_gf1 z c' (13 * l + k) ≤ wt_gf1 z c (13 * l + k)
  by_cases a : (wt_ga z 124 (13 * l + k)).toInt = -1 ∧ c' ≤ (wt_ga z 121 (13 * l + k)).toInt
  · have e1 : wt_gf1 z c' (13 * l + k) = 1 := if_pos a
    have e2 : wt_gf1 z c (13 * l + k) = 1 := if_pos (show (wt_ga z 124 (13 * l + k)).toInt = -1 ∧ c ≤ (wt_ga z 121 (13 * l + k)).toInt from ⟨a.1, by omega⟩)
    omega
  · have e1 : wt_gf1 z c' (13 * l + k) = 0 := if_neg a
    have e2 : 0 ≤ wt_gf1 z c (13 * l + k) := by
      unfold wt_gf1
      split <;> omega
    omega
theorem wt_go_att {z : wt_St} {l : Nat} {c : Int} (h : 1 ≤ wt_go z c l) : ∃ i : Nat, i < Int32.toNatClampNeg (wt_ga z 111 l) ∧ (wt_ga z 124 (13 * l + i)).toInt = -1 ∧ c ≤ (wt_ga z 121 (13 * l + i)).toInt ∧ wt_go z (wt_ga z 121 (13 * l + i)).toInt l = wt_go z c l := by
  have M : ∀ m : Nat, (∀ i, i < m → ¬ ((wt_ga z 124 (13 * l + i)).toInt = -1 ∧ c ≤ (wt_ga z 121 (13 * l + i)).toInt)) ∨ ∃ i, i < m ∧ ((wt_ga z 124 (13 * l + i)).toInt = -1 ∧ c ≤ (wt_ga z 121 (13 * l + i)).toInt) ∧ ∀ j, j < m → ((wt_ga z 124 (13 * l + j)).toInt = -1 ∧ c ≤ (wt_ga z 121 (13 * l + j)).toInt) → (wt_ga z 121 (13 * l + i)).toInt ≤ (wt_ga z 121 (13 * l + j)).toInt := by
    intro m
    induction m with
    | zero => exact Or.inl (fun i hi => absurd hi (by omega))
    | succ m ih =>
      by_cases a : (wt_ga z 124 (13 * l + m)).toInt = -1 ∧ c ≤ (wt_ga z 121 (13 * l + m)).toInt
      · rcases ih with ih | ⟨i, h1, h2, h3⟩
        · exact Or.inr ⟨m, by omega, a, fun j hj pj => by
            by_cases e : j = m
            · have e' : (wt_ga z 121 (13 * l + j)).toInt = (wt_ga z 121 (13 * l + m)).toInt := by rw [e]
              omega
            · exact absurd pj (ih j (by omega))⟩
        · by_cases b : (wt_ga z 121 (13 * l + i)).toInt ≤ (wt_ga z 121 (13 * l + m)).toInt
          · exact Or.inr ⟨i, by omega, h2, fun j hj pj => by
              by_cases e : j = m
              · have e' : (wt_ga z 121 (13 * l + j)).toInt = (wt_ga z 121 (13 * l + m)).toInt := by rw [e]
                omega
              · exact h3 j (by omega) pj⟩
          · exact Or.inr ⟨m, by omega, a, fun j hj pj => by
              by_cases e : j = m
              · have e' : (wt_ga z 121 (13 * l + j)).toInt = (wt_ga z 121 (13 * l + m)).toInt := by rw [e]
                omega
              · have := h3 j (by omega) pj
                omega⟩
      · rcases ih with ih | ⟨i, h1, h2, h3⟩
        · exact Or.inl (fun j hj pj => by
            by_cases e : j = m
            · rw [e] at pj
              exact a pj
            · exact ih j (by omega) pj)
        · exact Or.inr ⟨i, by omega, h2, fun j hj pj => by
            by_cases e : j = m
            · rw [e] at pj
              exact absurd pj a
            · exact h3 j (by omega) pj⟩
  rcases M (Int32.toNatClampNeg (wt_ga z 111 l)) with M | ⟨i, h1, h2, h3⟩
  · have b := wt_sum_bd (f := fun j => wt_gf1 z c (13 * l + j)) (c := 0) (Int32.toNatClampNeg (wt_ga z 111 l)) (fun k hk => by
      show 0 ≤ wt_gf1 z c (13 * l + k) ∧ wt_gf1 z c (13 * l + k) ≤ 0
      have e : wt_gf1 z c (13 * l + k) = 0 := if_neg (M k hk)
      omega)
    have h' : 1 ≤ wt_sum (fun j => wt_gf1 z c (13 * l + j)) (Int32.toNatClampNeg (wt_ga z 111 l)) := h
    omega
  · refine ⟨i, h1, h2.1, h2.2, ?_⟩
    unfold wt_go
    refine wt_sum_congr _ (fun k hk => ?_)
    show wt_gf1 z (wt_ga z 121 (13 * l + i)).toInt (13 * l + k) = wt_gf1 z c (13 * l + k)
    by_cases a : (wt_ga z 124 (13 * l + k)).toInt = -1 ∧ c ≤ (wt_ga z 121 (13 * l + k)).toInt
    · have e1 : wt_gf1 z c (13 * l + k) = 1 := if_pos a
      have e2 : wt_gf1 z (wt_ga z 121 (13 * l + i)).toInt (13 * l + k) = 1 := if_pos (show (wt_ga z 124 (13 * l + k)).toInt = -1 ∧ (wt_ga z 121 (13 * l + i)).toInt ≤ (wt_ga z 121 (13 * l + k)).toInt from ⟨a.1, h3 k hk a⟩)
      rw [e1, e2]
    · have e1 : wt_gf1 z c (13 * l + k) = 0 := if_neg a
      have e2 : wt_gf1 z (wt_ga z 121 (13 * l + i)).toInt (13 * l + k) = 0 := if_neg (show ¬ ((wt_ga z 124 (13 * l + k)).toInt = -1 ∧ (wt_ga z 121 (13 * l + i)).toInt ≤ (wt_ga z 121 (13 * l + k)).toInt) from fun b => a ⟨b.1, by have := h2.2; have := b.2; omega⟩)
      rw [e1, e2]
theorem wh_reach (n : Nat) (hn : 4294967297 < n) {a l : Nat} {x1 x2 : Int32} {s z : wt_St} (ha : wt_ln a = 312) (sk : wu_SK a s z) (rz : wt_RI z) (hx : x1.toInt = (l : Int)) (hl : l < 26) : wt_H (wp_sk_reach n a x1 x2 s) (fun q => q.2 = s ∧ (0 ≤ q.1.toInt ∧ q.1.toInt ≤ 1000000) ∧ (0 < x2.toInt → q.1.toInt ≤ 400) ∧ ∀ c : Int, 1 ≤ c → c ≤ 1000000 → (c ≤ q.1.toInt ↔ x2.toInt ≤ wt_go z c l)) := by
  have k0 : (0 : Int32).toInt = 0 := by decide
  have kM : (1000000 : Int32).toInt = 1000000 := by decide
  obtain ⟨m1, m2, m3⟩ := sk l hl
  unfold wp_sk_reach
  refine wt_H_if (fun h => ?_) (fun h => ?_)
  · have h' := wt_clt h
    refine wt_H_it (fun t : Int32 × Int32 × wt_St => t.2.2 = s ∧ (0 ≤ t.2.1.toInt ∧ t.2.1.toInt ≤ (wt_ga s 5 l).toInt) ∧ (0 ≤ t.1.toInt ∧ t.1.toInt ≤ 400) ∧ (t.1.toInt = 0 ∨ x2.toInt ≤ wt_go z t.1.toInt l) ∧ ∀ i : Nat, (i : Int) < t.2.1.toInt → (wt_ga z 124 (13 * l + i)).toInt = -1 → x2.toInt ≤ wt_go z (wt_ga z 121 (13 * l + i)).toInt l → (wt_ga z 121 (13 * l + i)).toInt ≤ t.1.toInt) (fun K t I hK => ?_) n _ ⟨rfl, ⟨by show 0 ≤ ((0 : Int32)).toInt; omega, by show ((0 : Int32)).toInt ≤ _; omega⟩, ⟨by show 0 ≤ ((0 : Int32)).toInt; omega, by show ((0 : Int32)).toInt ≤ 400; omega⟩, Or.inl k0, fun k hk => absurd (show (k : Int) < ((0 : Int32)).toInt from hk) (by omega)⟩
    obtain ⟨i0, ⟨i1, i2⟩, ⟨i3, i4⟩, i5, i6⟩ := I
    have et := wt_tnI i1
    unfold wp_sk_reach_B13
    rw [i0]
    refine wt_H_bh (wh_pieces n hn hx hl) (fun q1 h1 => ?_)
    subst h1
    dsimp only
    refine wt_H_if (fun c => ?_) (fun c => ?_)
    · have c' := wt_cle c
      refine wt_H_some ⟨rfl, ⟨i3, by show t.1.toInt ≤ 1000000; omega⟩, fun _ => i4, fun c c1 c2 => ⟨fun hc => ?_, fun hc => ?_⟩⟩
      · have hc' : c ≤ t.1.toInt := hc
        rcases i5 with e | e
        · omega
        · have := wt_go_anti (z := z) (l := l) hc'
          omega
      · obtain ⟨i, j1, j2, j3, j4⟩ := wt_go_att (z := z) (l := l) (c := c) (by omega)
        rw [← m1] at j1
        have e5 := wt_tnI m2.1
        have := i6 i (by omega) j2 (by rw [j4]; exact hc)
        show c ≤ t.1.toInt
        omega
    · have c' := wt_ncle c
      have ei := wt_i1 (c := t.2.1) (by omega)
      have ep := wt_piece hx hl i1 (by omega)
      obtain ⟨p1, p2⟩ := m3 (Int32.toNatClampNeg t.2.1) (by omega)
      have hz : 0 ≤ (wt_ga z 121 (13 * l + Int32.toNatClampNeg t.2.1)).toInt ∧ (wt_ga z 121 (13 * l + Int32.toNatClampNeg t.2.1)).toInt ≤ 400 := wt_Ra3 rz 121 (show 120 ≤ 121 by omega) (show 121 < 122 by omega) (13 * l + Int32.toNatClampNeg t.2.1)
      have NX : ∀ w : Int32, 0 ≤ w.toInt → w.toInt ≤ 400 → (w.toInt = 0 ∨ x2.toInt ≤ wt_go z w.toInt l) → t.1.toInt ≤ w.toInt → ((wt_ga z 124 (13 * l + Int32.toNatClampNeg t.2.1)).toInt = -1 → x2.toInt ≤ wt_go z (wt_ga z 121 (13 * l + Int32.toNatClampNeg t.2.1)).toInt l → (wt_ga z 121 (13 * l + Int32.toNatClampNeg t.2.1)).toInt ≤ w.toInt) → wt_H (wp_sk_reach_B72 n a x1 x2 w t.2.1 K s) (fun q => q.2 = s ∧ (0 ≤ q.1.toInt ∧ q.1.toInt ≤ 1000000) ∧ (0 < x2.toInt → q.1.toInt ≤ 400) ∧ ∀ c : Int, 1 ≤ c → c ≤ 1000000 → (c ≤ q.1.toInt ↔ x2.toInt ≤ wt_go z c l)) := fun w w0 w4 wg wt wl => by
        unfold wp_sk_reach_B72
        refine hK _ ⟨rfl, ⟨by show 0 ≤ (t.2.1 + (1 : Int32)).toInt; omega, by show (t.2.1 + (1 : Int32)).toInt ≤ _; omega⟩, ⟨w0, w4⟩, wg, fun i hi ho hg => ?_⟩
        have hi' : (i : Int) < (t.2.1 + (1 : Int32)).toInt := hi
        by_cases e : i = Int32.toNatClampNeg t.2.1
        · rw [e] at ho hg ⊢
          exact wl ho hg
        · have := i6 i (by omega) ho hg
          show (wt_ga z 121 (13 * l + i)).toInt ≤ w.toInt
          omega
      refine wt_H_bh (wh_look n hn (k := 12 * l + Int32.toNatClampNeg t.2.1) ep (by rw [ha]; omega)) (fun q4 h4 => ?_)
      subst h4
      dsimp only
      refine wt_H_bh (wh_lies n hn (j := 12 * l + Int32.toNatClampNeg t.2.1) ep (by omega)) (fun q5 h5 => ?_)
      obtain ⟨e5, h5⟩ := h5
      rw [e5]
      rcases h5 with ⟨u, h5⟩ | ⟨u, h5⟩
      · rw [if_neg (show ¬ q5.1 = 0 by rw [u]; decide)]
        rw [p2] at h5
        refine wt_H_if (fun d => ?_) (fun d => ?_)
        · have d' := wt_cle d
          rw [p1] at d'
          exact NX t.1 i3 i4 i5 (Int.le_refl _) (fun _ _ => d')
        · have d' := wt_ncle d
          refine wt_H_bh (wh_ready n hn ha hx hl m2.1 m2.2) (fun q8 h8 => ?_)
          obtain ⟨e8, h8⟩ := h8
          rw [e8]
          rw [wu_rd_go sk hl, p1] at h8
          rw [p1] at d'
          refine wt_H_if (fun f => ?_) (fun f => ?_)
          · have f' := wt_clt f
            exact NX t.1 i3 i4 i5 (Int.le_refl _) (fun _ hg => by omega)
          · have f' := wt_ncl f
            rw [p1]
            exact NX _ hz.1 hz.2 (Or.inr (by omega)) (by omega) (fun _ _ => Int.le_refl _)
      · rw [if_pos (show q5.1 = 0 from u)]
        rw [p2] at h5
        exact NX t.1 i3 i4 i5 (Int.le_refl _) (fun ho _ => absurd ho h5)
  · have h' := wt_ncl h
    refine wt_H_some ⟨rfl, ⟨by show 0 ≤ ((1000000 : Int32)).toInt; omega, by show ((1000000 : Int32)).toInt ≤ 1000000; omega⟩, fun h2 => by omega, fun c c1 c2 => ⟨fun _ => ?_, fun _ => by show c ≤ ((1000000 : Int32)).toInt; omega⟩⟩
    have := wt_go_nn (z := z) (l := l) c
    omega
theorem wh_often (n : Nat) (hn : 4294967297 < n) {a1 a2 : Nat} {s z : wt_St} (h1 : wt_ln a1 = 26) (h2 : wt_ln a2 = 312) (sk : wu_SK a2 s z) (rz : wt_RI z) : wt_H (wp_sk_often n a1 a2 s) (fun q => q.2 = s ∧ (0 ≤ q.1.toInt ∧ q.1.toInt ≤ 1000000) ∧ ((∃ l : Nat, l < 26 ∧ 0 < (wt_ga s a1 l).toInt) → q.1.toInt ≤ 400) ∧ ∀ c : Int, 1 ≤ c → c ≤ 1000000 → (c ≤ q.1.toInt ↔ ∀ l : Nat, l < 26 → (wt_ga s a1 l).toInt ≤ wt_go z c l)) := by
  have k0 : (0 : Int32).toInt = 0 := by decide
  have kM : (1000000 : Int32).toInt = 1000000 := by decide
  have hl26 : (nI (wt_ln a1)).toInt = 26 := by rw [h1]; exact nI_toInt (by omega)
  unfold wp_sk_often
  refine wt_H_it (fun t : Int32 × Int32 × wt_St => t.2.2 = s ∧ (0 ≤ t.2.1.toInt ∧ t.2.1.toInt ≤ 26) ∧ (0 ≤ t.1.toInt ∧ t.1.toInt ≤ 1000000) ∧ ((∃ l : Nat, (l : Int) < t.2.1.toInt ∧ 0 < (wt_ga s a1 l).toInt) → t.1.toInt ≤ 400) ∧ ∀ c : Int, 1 ≤ c → c ≤ 1000000 → (c ≤ t.1.toInt ↔ ∀ l : Nat, (l : Int) < t.2.1.toInt → (wt_ga s a1 l).toInt ≤ wt_go z c l)) (fun K t I hK => ?_) n _ ⟨rfl, ⟨by show 0 ≤ ((0 : Int32)).toInt; omega, by show ((0 : Int32)).toInt ≤ 26; omega⟩, ⟨by show 0 ≤ ((1000000 : Int32)).toInt; omega, by show ((1000000 : Int32)).toInt ≤ 1000000; omega⟩, fun ⟨k, hk, _⟩ => absurd (show (k : Int) < ((0 : Int32)).toInt from hk) (by omega), fun c c1 c2 => ⟨fun _ k hk => absurd (show (k : Int) < ((0 : Int32)).toInt from hk) (by omega), fun _ => by show c ≤ ((1000000 : Int32)).toInt; omega⟩⟩
  obtain ⟨i0, ⟨i1, i2⟩, i3, i4, i5⟩ := I
  have et := wt_tnI i1
  unfold wp_sk_often_B6
  rw [i0]
  refine wt_H_if (fun c => ?_) (fun c => ?_)
  · have c' := wt_cle c
    exact wt_H_some ⟨rfl, i3, fun ⟨l, l1, l2⟩ => i4 ⟨l, by omega, l2⟩, fun c c1 c2 => ⟨fun h l hl => (i5 c c1 c2).mp h l (by omega), fun h => (i5 c c1 c2).mpr (fun l hl => h l (by omega))⟩⟩
  · have c' := wt_ncle c
    have ei := wt_i1 (c := t.2.1) (by omega)
    refine wt_H_gd (fun _ => ?_)
    refine wt_H_bh (wh_reach n hn h2 sk rz (l := Int32.toNatClampNeg t.2.1) (by omega) (by omega)) (fun q3 h3 => ?_)
    obtain ⟨e3, r1, r2, r3⟩ := h3
    rw [e3]
    obtain ⟨w, hw⟩ : ∃ w : Int32, w = if q3.1 < t.1 then q3.1 else t.1 := ⟨_, rfl⟩
    rw [← hw]
    have W : (w.toInt = q3.1.toInt ∧ q3.1.toInt < t.1.toInt) ∨ (w.toInt = t.1.toInt ∧ t.1.toInt ≤ q3.1.toInt) := by
      by_cases d : q3.1 < t.1
      · left
        rw [hw, if_pos d]
        exact ⟨rfl, wt_clt d⟩
      · right
        rw [hw, if_neg d]
        exact ⟨rfl, wt_ncl d⟩
    refine hK _ ⟨rfl, ⟨by show 0 ≤ (t.2.1 + (1 : Int32)).toInt; omega, by show (t.2.1 + (1 : Int32)).toInt ≤ 26; omega⟩, ⟨by show 0 ≤ w.toInt; omega, by show w.toInt ≤ 1000000; omega⟩, fun ⟨l, l1, l2⟩ => ?_, fun c c1 c2 => ⟨fun h l hl => ?_, fun h => ?_⟩⟩
    · show w.toInt ≤ 400
      have l1' : (l : Int) < (t.2.1 + (1 : Int32)).toInt := l1
      by_cases e : l = Int32.toNatClampNeg t.2.1
      · rw [e] at l2
        have := r2 l2
        omega
      · have := i4 ⟨l, by omega, l2⟩
        omega
    · have h' : c ≤ w.toInt := h
      have hl' : (l : Int) < (t.2.1 + (1 : Int32)).toInt := hl
      by_cases e : l = Int32.toNatClampNeg t.2.1
      · rw [e]
        exact (r3 c c1 c2).mp (by omega)
      · exact (i5 c c1 c2).mp (by omega) l (by omega)
    · show c ≤ w.toInt
      have a1 := (r3 c c1 c2).mpr (h (Int32.toNatClampNeg t.2.1) (by show ((Int32.toNatClampNeg t.2.1 : Nat) : Int) < (t.2.1 + (1 : Int32)).toInt; omega))
      have a2 := (i5 c c1 c2).mpr (fun l hl => h l (by show (l : Int) < (t.2.1 + (1 : Int32)).toInt; omega))
      omega
theorem wh_oftenM (n : Nat) (hn : 4294967297 < n) {z : wt_St} (r : wt_RI z) : wt_H (wp_md_often n z) (fun y => y.2 = z ∧ (0 ≤ y.1.toInt ∧ y.1.toInt ≤ 400) ∧ (y.1.toInt = 0 ∨ ∀ l : Nat, l < 26 → (wt_ga z 287 l).toInt ≤ wt_go z y.1.toInt l) ∧ (y.1.toInt = 400 ∨ ¬ ∀ l : Nat, l < 26 → (wt_ga z 287 l).toInt ≤ wt_go z (y.1.toInt + 1) l)) := by
  have k0 : (0 : Int32).toInt = 0 := by decide
  have k1 : (1 : Int32).toInt = 1 := by decide
  have k2 : (2 : Int32).toInt = 2 := by decide
  have k400 : (400 : Int32).toInt = 400 := by decide
  unfold wp_md_often
  refine wt_H_it (fun t : Int32 × Int32 × wt_St => t.2.2 = z ∧ (0 ≤ t.1.toInt ∧ t.1.toInt ≤ t.2.1.toInt ∧ t.2.1.toInt ≤ 400) ∧ (t.1.toInt = 0 ∨ ∀ l : Nat, l < 26 → (wt_ga z 287 l).toInt ≤ wt_go z t.1.toInt l) ∧ (t.2.1.toInt = 400 ∨ ¬ ∀ l : Nat, l < 26 → (wt_ga z 287 l).toInt ≤ wt_go z (t.2.1.toInt + 1) l)) (fun K t I hK => ?_) n _ ⟨rfl, ⟨by show 0 ≤ ((0 : Int32)).toInt; omega, by show ((0 : Int32)).toInt ≤ ((400 : Int32)).toInt; omega, by show ((400 : Int32)).toInt ≤ 400; omega⟩, Or.inl k0, Or.inl k400⟩
  obtain ⟨i0, ⟨i1, i2, i3⟩, i4, i5⟩ := I
  unfold wp_md_often_B6
  rw [i0]
  refine wt_H_if (fun c => ?_) (fun c => ?_)
  · have c' := wt_cle c
    have e : t.1.toInt = t.2.1.toInt := by omega
    refine wt_H_some ⟨rfl, ⟨i1, by show t.1.toInt ≤ 400; omega⟩, i4, ?_⟩
    show t.1.toInt = 400 ∨ ¬ ∀ l : Nat, l < 26 → (wt_ga z 287 l).toInt ≤ wt_go z (t.1.toInt + 1) l
    rw [e]
    exact i5
  · have c' := wt_ncle c
    have a1 := wt_addE (x := t.1) (y := t.2.1) (by omega) (by omega)
    have a2 := wt_addE (x := t.1 + t.2.1) (y := (1 : Int32)) (by omega) (by omega)
    have dv : (((t.1 + t.2.1) + (1 : Int32)) / (2 : Int32)).toInt = ((t.1 + t.2.1) + (1 : Int32)).toInt / 2 := (wt_divI (x := (t.1 + t.2.1) + (1 : Int32)) (y := (2 : Int32)) (by omega) (by omega)).trans (by rw [k2])
    obtain ⟨m, hm⟩ : ∃ m : Int32, m = ((t.1 + t.2.1) + (1 : Int32)) / (2 : Int32) := ⟨_, rfl⟩
    rw [← hm] at dv
    rw [← hm]
    have b1 : t.1.toInt < m.toInt ∧ m.toInt ≤ t.2.1.toInt := by omega
    have es := wt_subE (x := m) (y := (1 : Int32)) (by omega) (by omega)
    refine wt_H_bh (wh_lackingM n hn r) (fun q2 h2 => ?_)
    obtain ⟨e2, h2⟩ := h2
    rw [e2]
    unfold wp_md_often_B37
    rcases h2 with ⟨w, w1, w2, w3, -⟩ | ⟨w1, w2⟩
    · rw [if_neg (show ¬ q2.1 = (-1 : Int32) from fun e => by rw [e, wt_lm1] at w2; omega)]
      refine hK _ ⟨rfl, ⟨i1, by show t.1.toInt ≤ (m - (1 : Int32)).toInt; omega, by show (m - (1 : Int32)).toInt ≤ 400; omega⟩, i4, Or.inr (fun h => ?_)⟩
      have h' : ∀ l : Nat, l < 26 → (wt_ga z 287 l).toInt ≤ wt_go z ((m - (1 : Int32)).toInt + 1) l := h
      have e : (m - (1 : Int32)).toInt + 1 = m.toInt := by omega
      rw [e] at h'
      have := h' w w1
      omega
    · rw [if_pos w1]
      refine hK _ ⟨rfl, ⟨by show 0 ≤ m.toInt; omega, b1.2, i3⟩, Or.inr (fun l hl => ?_), i5⟩
      have := w2 l hl
      show (wt_ga z 287 l).toInt ≤ wt_go z m.toInt l
      omega
theorem wr_often (n : Nat) (hn : 4294967297 < n) {a1 a2 : Nat} {s z : wt_St} (h1 : wt_ln a1 = 26) (h2 : wt_ln a2 = 312) (sk : wu_SK a2 s z) (rz : wt_RI z) (nd : ∀ l, l < 26 → wt_ga s a1 l = wt_ga z 287 l) (ps : ∃ l : Nat, l < 26 ∧ 0 < (wt_ga z 287 l).toInt) : wt_HH (wp_sk_often n a1 a2 s) (wp_md_often n z) (fun q y => q.1 = y.1 ∧ q.2 = s ∧ y.2 = z) := by
  refine wt_HH_of (wh_often n hn h1 h2 sk rz) (wh_oftenM n hn rz) (fun q y hq hy => ?_)
  obtain ⟨e1, b1, b2, b3⟩ := hq
  obtain ⟨e2, d1, d2, d3⟩ := hy
  refine ⟨wt_eqI ?_, e1, e2⟩
  have b2' : q.1.toInt ≤ 400 := by
    obtain ⟨l, l1, l2⟩ := ps
    exact b2 ⟨l, l1, by rw [nd l l1]; exact l2⟩
  have b3' : ∀ c : Int, 1 ≤ c → c ≤ 1000000 → (c ≤ q.1.toInt ↔ ∀ l : Nat, l < 26 → (wt_ga z 287 l).toInt ≤ wt_go z c l) := fun c c1 c2 => (b3 c c1 c2).trans ⟨fun h l hl => by rw [← nd l hl]; exact h l hl, fun h l hl => by rw [nd l hl]; exact h l hl⟩
  have lo : y.1.toInt ≤ q.1.toInt := by
    by_cases c : y.1.toInt = 0
    · omega
    · rcases d2 with d2 | d2
      · exact absurd d2 c
      · exact (b3' y.1.toInt (by omega) (by omega)).mpr d2
  have hi : q.1.toInt ≤ y.1.toInt := by
    rcases d3 with d3 | d3
    · omega
    · by_cases c : y.1.toInt + 1 ≤ q.1.toInt
      · exact absurd ((b3' (y.1.toInt + 1) (by omega) (by omega)).mp c) d3
      · omega
  omega
