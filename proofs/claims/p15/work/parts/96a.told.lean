/-! told, letter, piece, lacks on both sides -/
theorem wr_standing (n : Nat) (hn : 4294967297 < n) {s z : wt_St} (h : ∀ g, g < 4 → wt_ga s 43 g = wt_ga z 275 g) : wt_HH (wp_pg_standing n s) (wp_md_standing n z) (fun q y => q.1 = y.1 ∧ q.2 = s ∧ y.2 = z) := by
  have k0 : (0 : Int32).toInt = 0 := by decide
  have k4 : (4 : Int32).toInt = 4 := by decide
  unfold wp_pg_standing wp_md_standing
  refine wt_HH_it (fun a b : Int32 × Int32 × wt_St => a.1 = b.1 ∧ a.2.1 = b.2.1 ∧ a.2.2 = s ∧ b.2.2 = z ∧ 0 ≤ b.2.1.toInt) (fun K K' a b I hK => ?_) n n _ _ ⟨rfl, rfl, rfl, rfl, by show 0 ≤ ((0 : Int32)).toInt; omega⟩
  obtain ⟨i1, i2, i3, i4, i5⟩ := I
  have et := wt_tnI i5
  unfold wp_pg_standing_B4 wp_md_standing_B4
  rw [i1, i2, i3, i4]
  refine wt_HH_il (fun c => ?_) (fun c => ?_)
  · rw [if_pos c]
    exact wt_HH_some ⟨rfl, rfl, rfl⟩
  · rw [if_neg c]
    have c' := wt_ncle c
    have ei := wt_i1 (c := b.2.1) (by omega)
    refine wt_HH_l (wh_stands n hn) (fun q1 h1 => ?_)
    obtain ⟨e1, h1⟩ := h1
    rw [e1]
    refine wt_HH_gr (fun _ => ?_)
    have hg := h (Int32.toNatClampNeg b.2.1) (by omega)
    have N : ∀ w : Int32, wt_HH (wp_pg_standing_B23 n b.2.1 K b.1 w s) (wp_md_standing_B25 n b.2.1 K' b.1 w z) (fun q y => q.1 = y.1 ∧ q.2 = s ∧ y.2 = z) := fun w => by
      unfold wp_pg_standing_B23 wp_md_standing_B25
      exact hK _ _ ⟨rfl, rfl, rfl, rfl, by show 0 ≤ (b.2.1 + (1 : Int32)).toInt; omega⟩
    rcases h1 with ⟨u, -, v⟩ | ⟨u, v⟩
    · rw [if_neg (show ¬ q1.1 = 0 by rw [u]; decide)]
      rw [hg] at v
      exact wt_HH_ir (fun d => absurd ((wt_ceq d).trans wt_lm1) v) (fun _ => N 1)
    · rw [if_pos (show q1.1 = 0 from u)]
      rw [hg] at v
      exact wt_HH_ir (fun _ => N 0) (fun d => absurd ⟨⟨i5, by omega⟩, fun e => d (wt_eqI (e.trans wt_lm1.symm))⟩ v)
theorem wr_told (n : Nat) (hn : 4294967297 < n) {x1 : Int32} {s z : wt_St} (rl : wu_RL s z) : wt_HH (wp_ap_told n x1 s) (wp_md_told n x1 z) (fun q y => (q.1 = 1 ∧ wt_gf y.2 108 0 = 1) ∨ (q.1 = 0 ∧ wt_gf y.2 108 0 = 0 ∧ q.2.1 = y.1)) := by
  have k0 : (0 : Int32).toInt = 0 := by decide
  have k7 : (7 : Int32).toInt = 7 := by decide
  obtain ⟨-, -, to, lc, tx, sc, -⟩ := rl
  unfold wp_ap_told wp_md_told
  obtain ⟨z0, ε0⟩ : ∃ o : wt_St, o = wt_sf z 108 0 (0 : Int32) := ⟨_, rfl⟩
  rw [← ε0]
  have g0 := wt_fr_sf ε0
  have t0 : wt_gf z0 108 0 = 0 := wt_v_sf ε0
  obtain ⟨W, G, ⟨w1, w2, -⟩, ⟨w3, w4, -⟩, -, -⟩ := to
  have eW : wt_gf s 20 6 = wt_gf z0 108 28 := (wt_eqI (w1.trans w2.symm)).trans (g0.1 108 28 (by decide)).symm
  have eG : wt_gf s 20 7 = wt_gf z0 108 30 := (wt_eqI (w3.trans w4.symm)).trans (g0.1 108 30 (by decide)).symm
  have eT : wt_gf s 34 4 = wt_gf z0 108 39 := tx.1.trans (g0.1 108 39 (by decide)).symm
  have eN : wt_gf s 39 8 = wt_gf z0 108 40 := sc.2.1.1.trans (g0.1 108 40 (by decide)).symm
  have eF : wt_gf s 4 7 = wt_gf z0 108 25 := lc.2.2.2.2.2.trans (g0.1 108 25 (by decide)).symm
  have eH : wt_gf s 39 9 = wt_gf z0 108 26 := sc.1.1.trans (g0.1 108 26 (by decide)).symm
  have eM : ∀ l, l < 26 → wt_ga s 5 l = wt_ga z0 111 l := fun l hl => (lc.1 l hl).1.trans (g0.2 111 (fun h => h) l).symm
  have eP : ∀ g, g < 4 → wt_ga s 43 g = wt_ga z0 275 g := fun g hg => (sc.2.2.2 g hg).1.trans (g0.2 275 (fun h => h) g).symm
  refine wt_HH_r (wh_in n) (fun y1 h1 => ?_)
  obtain ⟨a1, b1⟩ := h1
  rw [a1]
  unfold wp_md_told_B21
  rcases b1 with ⟨c1, c2⟩ | ⟨c1, c2, c3⟩
  · have no : ∀ k : Int32, 0 ≤ k.toInt → k.toInt ≤ 7 → ¬ x1 = k := fun k h0 h7 h => by rw [h] at c2; omega
    rw [if_pos (show y1.1 = 0 from c1), if_neg (no 0 (by decide) (by decide)), if_neg (no 1 (by decide) (by decide)), if_neg (no 2 (by decide) (by decide)), if_neg (no 3 (by decide) (by decide)), if_neg (no 4 (by decide) (by decide)), if_neg (no 5 (by decide) (by decide)), if_neg (no 6 (by decide) (by decide)), if_neg (no 7 (by decide) (by decide))]
    refine wt_HH_r (wh_bad1 n t0 (by decide)) (fun y hy => ?_)
    subst hy
    dsimp only
    rw [if_neg (show ¬ ((1 : Int32) = 0) by decide)]
    exact wt_HH_some (Or.inl ⟨rfl, wt_v_sf rfl⟩)
  · rw [if_neg (show ¬ y1.1 = 0 by rw [c1]; decide)]
    refine wt_HH_r (wh_bad0 n t0) (fun y hy => ?_)
    subst hy
    dsimp only
    rw [if_pos (show (0 : Int32) = 0 from rfl)]
    refine wt_HH_il (fun c => ?_) (fun c => ?_)
    · rw [if_pos c]
      exact wt_HH_b (wr_sum n hn eM) (fun a b h => wt_HH_some (Or.inr ⟨rfl, by show wt_gf b.2 108 0 = 0; rw [h.2.2]; exact t0, h.1⟩))
    rw [if_neg c]
    refine wt_HH_il (fun d => ?_) (fun d => ?_)
    · rw [if_pos d]
      exact wt_HH_some (Or.inr ⟨rfl, t0, eW⟩)
    rw [if_neg d]
    refine wt_HH_il (fun d2 => ?_) (fun d2 => ?_)
    · rw [if_pos d2]
      exact wt_HH_some (Or.inr ⟨rfl, t0, eT⟩)
    rw [if_neg d2]
    refine wt_HH_il (fun d3 => ?_) (fun d3 => ?_)
    · rw [if_pos d3]
      exact wt_HH_b (wr_standing n hn eP) (fun a b h => wt_HH_some (Or.inr ⟨rfl, by show wt_gf b.2 108 0 = 0; rw [h.2.2]; exact t0, h.1⟩))
    rw [if_neg d3]
    refine wt_HH_il (fun d4 => ?_) (fun d4 => ?_)
    · rw [if_pos d4]
      exact wt_HH_some (Or.inr ⟨rfl, t0, eN⟩)
    rw [if_neg d4]
    refine wt_HH_il (fun d5 => ?_) (fun d5 => ?_)
    · rw [if_pos d5]
      exact wt_HH_some (Or.inr ⟨rfl, t0, eF⟩)
    rw [if_neg d5]
    refine wt_HH_il (fun d6 => ?_) (fun d6 => ?_)
    · rw [if_pos d6]
      exact wt_HH_some (Or.inr ⟨rfl, t0, eH⟩)
    rw [if_neg d6]
    refine wt_HH_il (fun d7 => ?_) (fun d7 => ?_)
    · exact wt_HH_some (Or.inr ⟨rfl, t0, eG⟩)
    · have n0 : ∀ k : Int32, ¬ x1 = k → x1.toInt ≠ k.toInt := fun k h e => h (wt_eqI e)
      have m0 := n0 0 c
      have m1 := n0 1 d
      have m2 := n0 2 d2
      have m3 := n0 3 d3
      have m4 := n0 4 d4
      have m5 := n0 5 d5
      have m6 := n0 6 d6
      have m7 := n0 7 d7
      have k1 : (1 : Int32).toInt = 1 := by decide
      have k2 : (2 : Int32).toInt = 2 := by decide
      have k3 : (3 : Int32).toInt = 3 := by decide
      have k4 : (4 : Int32).toInt = 4 := by decide
      have k5 : (5 : Int32).toInt = 5 := by decide
      have k6 : (6 : Int32).toInt = 6 := by decide
      omega
/-- a letter or none -/
theorem wh_isLetter (n : Nat) {x : Int32} {z : wt_St} : wt_H (wp_md_isLetter n x z) (fun q => q.2 = z ∧ ((q.1 = 1 ∧ 0 ≤ x.toInt ∧ x.toInt < 26) ∨ (q.1 = 0 ∧ (x.toInt < 0 ∨ 26 ≤ x.toInt)))) := by
  have k0 : (0 : Int32).toInt = 0 := by decide
  have k25 : (25 : Int32).toInt = 25 := by decide
  unfold wp_md_isLetter
  refine wt_H_bh (wh_in n) (fun q hq => wt_H_some ⟨hq.1, ?_⟩)
  rcases hq.2 with ⟨a, b⟩ | ⟨a, b, c⟩
  · exact Or.inr ⟨a, by omega⟩
  · exact Or.inl ⟨a, by omega, by omega⟩
theorem wt_HH_rr {α β : Type} {p : Option α} {p' : Option β} {P' : β → Prop} {Q : α → β → Prop} (h : wt_H p' P') (k : ∀ b, P' b → wt_H p (fun a => Q a b)) : wt_HH p p' Q := fun a b e e' => k b (h b e') a e
def wu_fo (h : Nat → Int32 → Int32) : Nat → Int32
  | 0 => 0
  | m + 1 => h m (wu_fo h m)
theorem wu_fo_congr {h g : Nat → Int32 → Int32} : ∀ (m : Nat), (∀ i, i < m → ∀ a, h i a = g i a) → wu_fo h m = wu_fo g m := by
  intro m
  induction m with
  | zero => intro _; rfl
  | succ m ih =>
    intro e
    show h m (wu_fo h m) = g m (wu_fo g m)
    rw [ih (fun i hi => e i (by omega)), e m (by omega)]
def wu_f1 (f : Nat → Int32) (i : Nat) (a : Int32) : Int32 := a + (if f i = (-1 : Int32) then (1 : Int32) else (0 : Int32))
def wu_f2 (f : Nat → Int32) (i : Nat) (a : Int32) : Int32 := a + f i
def wu_f3 (f : Nat → Int32) (i : Nat) (a : Int32) : Int32 := if a < f i then f i else a
def wu_f4 (f : Nat → Int32) (i : Nat) (a : Int32) : Int32 := a + (if f i = 0 then (1 : Int32) else (0 : Int32))
theorem wu_f2_e {f g : Nat → Int32} {i : Nat} (h : f i = g i) (a : Int32) : wu_f2 f i a = wu_f2 g i a := by
  unfold wu_f2
  rw [h]
theorem wu_f3_e {f g : Nat → Int32} {i : Nat} (h : f i = g i) (a : Int32) : wu_f3 f i a = wu_f3 g i a := by
  unfold wu_f3
  rw [h]
theorem wu_f4_e {f g : Nat → Int32} {i : Nat} (h : f i = g i) (a : Int32) : wu_f4 f i a = wu_f4 g i a := by
  unfold wu_f4
  rw [h]
theorem wu_f1_go {z : wt_St} {l : Nat} (r : wt_RI z) : ∀ (m : Nat), m ≤ 13 → (wu_fo (wu_f1 (fun i => wt_ga z 124 (13 * l + i))) m).toInt = wt_sum (fun j => wt_gf1 z 0 (13 * l + j)) m ∧ 0 ≤ wt_sum (fun j => wt_gf1 z 0 (13 * l + j)) m ∧ wt_sum (fun j => wt_gf1 z 0 (13 * l + j)) m ≤ m := by
  intro m
  induction m with
  | zero => intro _; exact ⟨(by decide : (0 : Int32).toInt = 0), Int.le_refl _, Int.le_refl _⟩
  | succ m ih =>
    intro hm
    have k0 : (0 : Int32).toInt = 0 := by decide
    have k1 : (1 : Int32).toInt = 1 := by decide
    obtain ⟨e, b1, b2⟩ := ih (by omega)
    have hz : 0 ≤ (wt_ga z 121 (13 * l + m)).toInt ∧ (wt_ga z 121 (13 * l + m)).toInt ≤ 400 := wt_Ra3 r 121 (show 120 ≤ 121 by omega) (show 121 < 122 by omega) (13 * l + m)
    show (wu_fo (wu_f1 (fun i => wt_ga z 124 (13 * l + i))) m + (if wt_ga z 124 (13 * l + m) = (-1 : Int32) then (1 : Int32) else (0 : Int32))).toInt = wt_sum (fun j => wt_gf1 z 0 (13 * l + j)) m + wt_gf1 z 0 (13 * l + m) ∧ 0 ≤ wt_sum (fun j => wt_gf1 z 0 (13 * l + j)) m + wt_gf1 z 0 (13 * l + m) ∧ wt_sum (fun j => wt_gf1 z 0 (13 * l + j)) m + wt_gf1 z 0 (13 * l + m) ≤ ((m + 1 : Nat) : Int)
    by_cases c : wt_ga z 124 (13 * l + m) = (-1 : Int32)
    · have v : wt_gf1 z 0 (13 * l + m) = 1 := by
        unfold wt_gf1
        rw [if_pos ⟨(wt_ceq c).trans wt_lm1, hz.1⟩]
      rw [if_pos c, v]
      have ea := wt_addE (x := wu_fo (wu_f1 (fun i => wt_ga z 124 (13 * l + i))) m) (y := (1 : Int32)) (by omega) (by omega)
      omega
    · have v : wt_gf1 z 0 (13 * l + m) = 0 := by
        unfold wt_gf1
        rw [if_neg (fun h => c (wt_eqI (h.1.trans wt_lm1.symm)))]
      rw [if_neg c, v]
      have ea := wt_addE (x := wu_fo (wu_f1 (fun i => wt_ga z 124 (13 * l + i))) m) (y := (0 : Int32)) (by omega) (by omega)
      omega
theorem wh_leftOfAll (n : Nat) (hn : 4294967297 < n) {l m : Nat} {x : Int32} {s : wt_St} (hx : x.toInt = (l : Int)) (hl : l < 26) (hm : (wt_ga s 5 l).toInt = (m : Int)) (h12 : m ≤ 12) : wt_H (wp_sk_leftOfAll n x s) (fun q => q = (wu_fo (wu_f2 (fun i => wt_ga s 40 (12 * l + i))) m, s)) := by
  have k0 : (0 : Int32).toInt = 0 := by decide
  unfold wp_sk_leftOfAll
  refine wt_H_it (fun t : Int32 × Int32 × wt_St => t.2.2 = s ∧ (0 ≤ t.2.1.toInt ∧ t.2.1.toInt ≤ (m : Int)) ∧ t.1 = wu_fo (wu_f2 (fun i => wt_ga s 40 (12 * l + i))) (Int32.toNatClampNeg t.2.1)) (fun K t I hK => ?_) n _ ⟨rfl, ⟨by show 0 ≤ ((0 : Int32)).toInt; omega, by show ((0 : Int32)).toInt ≤ _; omega⟩, by show (0 : Int32) = wu_fo _ (Int32.toNatClampNeg (0 : Int32)); rw [wt_tn0]; rfl⟩
  obtain ⟨i0, ⟨i1, i2⟩, i3⟩ := I
  have et := wt_tnI i1
  unfold wp_sk_leftOfAll_B4
  rw [i0]
  refine wt_H_bh (wh_pieces n hn hx hl) (fun q1 h1 => ?_)
  subst h1
  dsimp only
  refine wt_H_if (fun c => ?_) (fun c => ?_)
  · have c' := wt_cle c
    refine wt_H_some ?_
    show (t.1, s) = _
    rw [i3, show Int32.toNatClampNeg t.2.1 = m by omega]
  · have c' := wt_ncle c
    have ei := wt_i1 (c := t.2.1) (by omega)
    have ep := wt_piece hx hl i1 (by omega)
    have en : Int32.toNatClampNeg (t.2.1 + (1 : Int32)) = Int32.toNatClampNeg t.2.1 + 1 := by have := wt_tnI (x := t.2.1 + (1 : Int32)) (by omega); omega
    refine wt_H_bh (wh_look n hn (k := 12 * l + Int32.toNatClampNeg t.2.1) ep (by rw [show wt_ln 40 = 312 from by decide]; omega)) (fun q3 h3 => ?_)
    subst h3
    dsimp only
    refine hK _ ⟨rfl, ⟨by show 0 ≤ (t.2.1 + (1 : Int32)).toInt; omega, by show (t.2.1 + (1 : Int32)).toInt ≤ _; omega⟩, ?_⟩
    show t.1 + wt_ga s 40 (12 * l + Int32.toNatClampNeg t.2.1) = wu_fo _ (Int32.toNatClampNeg (t.2.1 + (1 : Int32)))
    rw [en, i3]
    rfl
theorem wh_mostLeft (n : Nat) (hn : 4294967297 < n) {l m : Nat} {x : Int32} {s : wt_St} (hx : x.toInt = (l : Int)) (hl : l < 26) (hm : (wt_ga s 5 l).toInt = (m : Int)) (h12 : m ≤ 12) : wt_H (wp_sk_mostLeft n x s) (fun q => q = (wu_fo (wu_f3 (fun i => wt_ga s 40 (12 * l + i))) m, s)) := by
  have k0 : (0 : Int32).toInt = 0 := by decide
  unfold wp_sk_mostLeft
  refine wt_H_it (fun t : Int32 × Int32 × wt_St => t.2.2 = s ∧ (0 ≤ t.2.1.toInt ∧ t.2.1.toInt ≤ (m : Int)) ∧ t.1 = wu_fo (wu_f3 (fun i => wt_ga s 40 (12 * l + i))) (Int32.toNatClampNeg t.2.1)) (fun K t I hK => ?_) n _ ⟨rfl, ⟨by show 0 ≤ ((0 : Int32)).toInt; omega, by show ((0 : Int32)).toInt ≤ _; omega⟩, by show (0 : Int32) = wu_fo _ (Int32.toNatClampNeg (0 : Int32)); rw [wt_tn0]; rfl⟩
  obtain ⟨i0, ⟨i1, i2⟩, i3⟩ := I
  have et := wt_tnI i1
  unfold wp_sk_mostLeft_B4
  rw [i0]
  refine wt_H_bh (wh_pieces n hn hx hl) (fun q1 h1 => ?_)
  subst h1
  dsimp only
  refine wt_H_if (fun c => ?_) (fun c => ?_)
  · have c' := wt_cle c
    refine wt_H_some ?_
    show (t.1, s) = _
    rw [i3, show Int32.toNatClampNeg t.2.1 = m by omega]
  · have c' := wt_ncle c
    have ei := wt_i1 (c := t.2.1) (by omega)
    have ep := wt_piece hx hl i1 (by omega)
    have en : Int32.toNatClampNeg (t.2.1 + (1 : Int32)) = Int32.toNatClampNeg t.2.1 + 1 := by have := wt_tnI (x := t.2.1 + (1 : Int32)) (by omega); omega
    refine wt_H_bh (wh_look n hn (k := 12 * l + Int32.toNatClampNeg t.2.1) ep (by rw [show wt_ln 40 = 312 from by decide]; omega)) (fun q3 h3 => ?_)
    subst h3
    refine hK _ ⟨rfl, ⟨by show 0 ≤ (t.2.1 + (1 : Int32)).toInt; omega, by show (t.2.1 + (1 : Int32)).toInt ≤ _; omega⟩, ?_⟩
    show (if t.1 < wt_ga s 40 (12 * l + Int32.toNatClampNeg t.2.1) then wt_ga s 40 (12 * l + Int32.toNatClampNeg t.2.1) else t.1) = wu_fo _ (Int32.toNatClampNeg (t.2.1 + (1 : Int32)))
    rw [en, i3]
    rfl
theorem wh_wornOut (n : Nat) (hn : 4294967297 < n) {l m : Nat} {x : Int32} {s : wt_St} (hx : x.toInt = (l : Int)) (hl : l < 26) (hm : (wt_ga s 5 l).toInt = (m : Int)) (h12 : m ≤ 12) : wt_H (wp_sk_wornOut n x s) (fun q => q = (wu_fo (wu_f4 (fun i => wt_ga s 40 (12 * l + i))) m, s)) := by
  have k0 : (0 : Int32).toInt = 0 := by decide
  unfold wp_sk_wornOut
  refine wt_H_it (fun t : Int32 × Int32 × wt_St => t.2.2 = s ∧ (0 ≤ t.2.1.toInt ∧ t.2.1.toInt ≤ (m : Int)) ∧ t.1 = wu_fo (wu_f4 (fun i => wt_ga s 40 (12 * l + i))) (Int32.toNatClampNeg t.2.1)) (fun K t I hK => ?_) n _ ⟨rfl, ⟨by show 0 ≤ ((0 : Int32)).toInt; omega, by show ((0 : Int32)).toInt ≤ _; omega⟩, by show (0 : Int32) = wu_fo _ (Int32.toNatClampNeg (0 : Int32)); rw [wt_tn0]; rfl⟩
  obtain ⟨i0, ⟨i1, i2⟩, i3⟩ := I
  have et := wt_tnI i1
  unfold wp_sk_wornOut_B4
  rw [i0]
  refine wt_H_bh (wh_pieces n hn hx hl) (fun q1 h1 => ?_)
  subst h1
  dsimp only
  refine wt_H_if (fun c => ?_) (fun c => ?_)
  · have c' := wt_cle c
    refine wt_H_some ?_
    show (t.1, s) = _
    rw [i3, show Int32.toNatClampNeg t.2.1 = m by omega]
  · have c' := wt_ncle c
    have ei := wt_i1 (c := t.2.1) (by omega)
    have ep := wt_piece hx hl i1 (by omega)
    have en : Int32.toNatClampNeg (t.2.1 + (1 : Int32)) = Int32.toNatClampNeg t.2.1 + 1 := by have := wt_tnI (x := t.2.1 + (1 : Int32)) (by omega); omega
    refine wt_H_bh (wh_look n hn (k := 12 * l + Int32.toNatClampNeg t.2.1) ep (by rw [show wt_ln 40 = 312 from by decide]; omega)) (fun q3 h3 => ?_)
    subst h3
    dsimp only
    have N : ∀ w : Int32, w = (if wt_ga s 40 (12 * l + Int32.toNatClampNeg t.2.1) = 0 then (1 : Int32) else (0 : Int32)) → wt_H (wp_sk_wornOut_B38 n x t.2.1 K t.1 w s) (fun q => q = (wu_fo (wu_f4 (fun i => wt_ga s 40 (12 * l + i))) m, s)) := fun w hw => by
      unfold wp_sk_wornOut_B38
      refine hK _ ⟨rfl, ⟨by show 0 ≤ (t.2.1 + (1 : Int32)).toInt; omega, by show (t.2.1 + (1 : Int32)).toInt ≤ _; omega⟩, ?_⟩
      show t.1 + w = wu_fo _ (Int32.toNatClampNeg (t.2.1 + (1 : Int32)))
      rw [en, i3, hw]
      rfl
    exact wt_H_if (fun d => N 1 (by rw [if_pos d])) (fun d => N 0 (by rw [if_neg d]))
/-- what the reference tells of a letter -/
def wu_let (z : wt_St) (l m : Nat) (x : Int32) : Int32 := if x = (0 : Int32) then wt_ga z 111 l else if x = (1 : Int32) then wu_fo (wu_f1 (fun i => wt_ga z 124 (13 * l + i))) m else if x = (2 : Int32) then wu_fo (wu_f2 (fun i => wt_ga z 121 (13 * l + i))) m else if x = (3 : Int32) then wu_fo (wu_f3 (fun i => wt_ga z 121 (13 * l + i))) m else if x = (4 : Int32) then wu_fo (wu_f4 (fun i => wt_ga z 121 (13 * l + i))) m else if x = (5 : Int32) then wt_ga z 115 l else if x = (6 : Int32) then wt_ga z 117 l else wt_ga z 113 l
theorem wh_letterLoop (n : Nat) {l m : Nat} {x1 x2 : Int32} {z : wt_St} (hx : x1.toInt = (l : Int)) (hl : l < 26) (hm : (wt_ga z 111 l).toInt = (m : Int)) (h12 : m ≤ 12) : wt_H (wt_it (wp_md_letter_B51 n x1 x2) n ((0 : Int32), (0 : Int32), (0 : Int32), (0 : Int32), (0 : Int32), z)) (fun y => y = (wu_let z l m x2, z)) := by
  have k0 : (0 : Int32).toInt = 0 := by decide
  have e1 := wt_tnN hx
  refine wt_H_it (fun t : Int32 × Int32 × Int32 × Int32 × Int32 × wt_St => t.2.2.2.2.2 = z ∧ (0 ≤ t.2.2.2.2.1.toInt ∧ t.2.2.2.2.1.toInt ≤ (m : Int)) ∧ t.1 = wu_fo (wu_f1 (fun i => wt_ga z 124 (13 * l + i))) (Int32.toNatClampNeg t.2.2.2.2.1) ∧ t.2.1 = wu_fo (wu_f2 (fun i => wt_ga z 121 (13 * l + i))) (Int32.toNatClampNeg t.2.2.2.2.1) ∧ t.2.2.1 = wu_fo (wu_f3 (fun i => wt_ga z 121 (13 * l + i))) (Int32.toNatClampNeg t.2.2.2.2.1) ∧ t.2.2.2.1 = wu_fo (wu_f4 (fun i => wt_ga z 121 (13 * l + i))) (Int32.toNatClampNeg t.2.2.2.2.1)) (fun K t I hK => ?_) n _ ⟨rfl, ⟨by show 0 ≤ ((0 : Int32)).toInt; omega, by show ((0 : Int32)).toInt ≤ _; omega⟩, by show (0 : Int32) = wu_fo _ (Int32.toNatClampNeg (0 : Int32)); rw [wt_tn0]; rfl, by show (0 : Int32) = wu_fo _ (Int32.toNatClampNeg (0 : Int32)); rw [wt_tn0]; rfl, by show (0 : Int32) = wu_fo _ (Int32.toNatClampNeg (0 : Int32)); rw [wt_tn0]; rfl, by show (0 : Int32) = wu_fo _ (Int32.toNatClampNeg (0 : Int32)); rw [wt_tn0]; rfl⟩
  obtain ⟨i0, ⟨i1, i2⟩, i3, i4, i5, i6⟩ := I
  have et := wt_tnI i1
  unfold wp_md_letter_B51
  rw [i0, e1]
  refine wt_H_gd (fun _ => ?_)
  refine wt_H_if (fun c => ?_) (fun c => ?_)
  · have c' := wt_cle c
    have em : Int32.toNatClampNeg t.2.2.2.2.1 = m := by omega
    rw [em] at i3 i4 i5 i6
    rw [i3, i4, i5, i6]
    refine wt_H_if (fun d => wt_H_gd (fun _ => wt_H_some ?_)) (fun d => ?_)
    · unfold wu_let
      rw [if_pos d]
    refine wt_H_if (fun d1 => wt_H_some ?_) (fun d1 => ?_)
    · unfold wu_let
      rw [if_neg d, if_pos d1]
    refine wt_H_if (fun d2 => wt_H_some ?_) (fun d2 => ?_)
    · unfold wu_let
      rw [if_neg d, if_neg d1, if_pos d2]
    refine wt_H_if (fun d3 => wt_H_some ?_) (fun d3 => ?_)
    · unfold wu_let
      rw [if_neg d, if_neg d1, if_neg d2, if_pos d3]
    refine wt_H_if (fun d4 => wt_H_some ?_) (fun d4 => ?_)
    · unfold wu_let
      rw [if_neg d, if_neg d1, if_neg d2, if_neg d3, if_pos d4]
    refine wt_H_if (fun d5 => wt_H_gd (fun _ => wt_H_some ?_)) (fun d5 => ?_)
    · unfold wu_let
      rw [if_neg d, if_neg d1, if_neg d2, if_neg d3, if_neg d4, if_pos d5]
    refine wt_H_if (fun d6 => wt_H_gd (fun _ => wt_H_some ?_)) (fun d6 => wt_H_gd (fun _ => wt_H_some ?_))
    · unfold wu_let
      rw [if_neg d, if_neg d1, if_neg d2, if_neg d3, if_neg d4, if_neg d5, if_pos d6]
    · unfold wu_let
      rw [if_neg d, if_neg d1, if_neg d2, if_neg d3, if_neg d4, if_neg d5, if_neg d6]
  · have c' := wt_ncle c
    have ei := wt_i1 (c := t.2.2.2.2.1) (by omega)
    have en : Int32.toNatClampNeg (t.2.2.2.2.1 + (1 : Int32)) = Int32.toNatClampNeg t.2.2.2.2.1 + 1 := by have := wt_tnI (x := t.2.2.2.2.1 + (1 : Int32)) (by omega); omega
    refine wt_H_bh (wh_cell n (l := l) (i := Int32.toNatClampNeg t.2.2.2.2.1) hx (by omega) hl (by omega)) (fun q18 h18 => ?_)
    obtain ⟨a18, b18⟩ := h18
    rw [a18]
    refine wt_H_gd (fun _ => ?_)
    refine wt_H_bh (wh_cell n (l := l) (i := Int32.toNatClampNeg t.2.2.2.2.1) hx (by omega) hl (by omega)) (fun q20 h20 => ?_)
    obtain ⟨a20, b20⟩ := h20
    rw [a20]
    refine wt_H_gd (fun _ => ?_)
    rw [wt_tnN b18, wt_tnN b20]
    obtain ⟨p, hp⟩ : ∃ p : Int32, p = wt_ga z 121 (13 * l + Int32.toNatClampNeg t.2.2.2.2.1) := ⟨_, rfl⟩
    obtain ⟨o, ho⟩ : ∃ o : Int32, o = wt_ga z 124 (13 * l + Int32.toNatClampNeg t.2.2.2.2.1) := ⟨_, rfl⟩
    rw [← hp, ← ho]
    have N : ∀ w1 w3 w4 : Int32, w1 = (if o = (-1 : Int32) then (1 : Int32) else (0 : Int32)) → w3 = (if t.2.2.1 < p then p else t.2.2.1) → w4 = (if p = 0 then (1 : Int32) else (0 : Int32)) → wt_H (wp_md_letter_B133 n x1 x2 (t.1 + w1) (t.2.1 + p) w3 t.2.2.2.2.1 K t.2.2.2.1 w4 z) (fun y => y = (wu_let z l m x2, z)) := fun w1 w3 w4 h1 h3 h4 => by
      unfold wp_md_letter_B133
      refine hK _ ⟨rfl, ⟨by show 0 ≤ (t.2.2.2.2.1 + (1 : Int32)).toInt; omega, by show (t.2.2.2.2.1 + (1 : Int32)).toInt ≤ _; omega⟩, ?_, ?_, ?_, ?_⟩
      · show t.1 + w1 = wu_fo _ (Int32.toNatClampNeg (t.2.2.2.2.1 + (1 : Int32)))
        rw [en, i3, h1, ho]
        rfl
      · show t.2.1 + p = wu_fo _ (Int32.toNatClampNeg (t.2.2.2.2.1 + (1 : Int32)))
        rw [en, i4, hp]
        rfl
      · show w3 = wu_fo _ (Int32.toNatClampNeg (t.2.2.2.2.1 + (1 : Int32)))
        rw [en, h3, i5, hp]
        rfl
      · show t.2.2.2.1 + w4 = wu_fo _ (Int32.toNatClampNeg (t.2.2.2.2.1 + (1 : Int32)))
        rw [en, i6, h4, hp]
        rfl
    have N2 : ∀ w1 w3 : Int32, w1 = (if o = (-1 : Int32) then (1 : Int32) else (0 : Int32)) → w3 = (if t.2.2.1 < p then p else t.2.2.1) → wt_H (wp_md_letter_B119 n x1 x2 (t.1 + w1) (t.2.1 + p) t.2.2.2.1 t.2.2.2.2.1 p K w3 z) (fun y => y = (wu_let z l m x2, z)) := fun w1 w3 h1 h3 => by
      unfold wp_md_letter_B119
      exact wt_H_if (fun d => N w1 w3 1 h1 h3 (by rw [if_pos d])) (fun d => N w1 w3 0 h1 h3 (by rw [if_neg d]))
    have N3 : ∀ w1 : Int32, w1 = (if o = (-1 : Int32) then (1 : Int32) else (0 : Int32)) → wt_H (wp_md_letter_B96 n x1 x2 t.2.1 t.2.2.1 t.2.2.2.1 t.2.2.2.2.1 p K t.1 w1 z) (fun y => y = (wu_let z l m x2, z)) := fun w1 h1 => by
      unfold wp_md_letter_B96
      exact wt_H_if (fun d => N2 w1 t.2.2.1 h1 (by have := wt_cle d; rw [if_neg (show ¬ t.2.2.1 < p from fun e => by have := wt_clt e; omega)])) (fun d => N2 w1 p h1 (by have := wt_ncle d; rw [if_pos (show t.2.2.1 < p from Int32.lt_iff_toInt_lt.mpr (by omega))]))
    exact wt_H_if (fun d => N3 1 (by rw [if_pos d])) (fun d => N3 0 (by rw [if_neg d]))
theorem wr_letterQ (n : Nat) (hn : 4294967297 < n) {x1 x2 : Int32} {s z : wt_St} (v : wt_IV z) (rl : wu_RL s z) : wt_HH (wp_ap_letter n x1 x2 s) (wp_md_letter n x1 x2 z) (fun q y => (q.1 = 1 ∧ wt_gf y.2 108 0 = 1) ∨ (q.1 = 0 ∧ wt_gf y.2 108 0 = 0 ∧ q.2.1 = y.1)) := by
  have k0 : (0 : Int32).toInt = 0 := by decide
  have k7 : (7 : Int32).toInt = 7 := by decide
  have k26 : (26 : Int32).toInt = 26 := by decide
  obtain ⟨-, -, -, lc, -, sc, -⟩ := rl
  have sk := wu_SK_of lc sc
  unfold wp_ap_letter wp_md_letter
  obtain ⟨z0, ε0⟩ : ∃ o : wt_St, o = wt_sf z 108 0 (0 : Int32) := ⟨_, rfl⟩
  rw [← ε0]
  have g0 := wt_fr_sf ε0
  have t0 : wt_gf z0 108 0 = 0 := wt_v_sf ε0
  have r0 : wt_RI z0 := wt_RI_fno v.1 ε0 (Or.inr (by decide +kernel))
  have sk0 : wu_SK 40 s z0 := wu_SK_fr sk (wt_fr.rf (F := fun _ _ => False) (A := fun _ => False)) g0 ⟨fun h => h, fun h => h, fun h => h⟩ ⟨fun h => h, fun h => h, fun h => h⟩
  -- out of its bounds, on the reference's side
  have BAD : wt_H (wp_md_letter_B23 n x1 x2 z0) (fun y => wt_gf y.2 108 0 = 1) := by
    unfold wp_md_letter_B23 wp_md_letter_B28
    refine wt_H_bh (wh_bad1 n t0 (by decide)) (fun y hy => ?_)
    subst hy
    dsimp only
    rw [if_neg (show ¬ ((1 : Int32) = 0) by decide)]
    exact wt_H_some (wt_v_sf rfl)
  have CB : wt_H (wp_ap_letter_B10 n x1 x2 s) (fun q => q.1 = 1) := by
    unfold wp_ap_letter_B10 wp_ap_letter_B15
    refine wt_H_bh (wh_refuse1 n) (fun q hq => ?_)
    subst hq
    dsimp only
    rw [if_neg (show ¬ ((1 : Nat) = 0) by decide)]
    exact wt_H_some rfl
  refine wt_HH_r (wh_isLetter n) (fun y1 h1 => ?_)
  obtain ⟨a1, b1⟩ := h1
  rw [a1]
  rcases b1 with ⟨c1, c2, c3⟩ | ⟨c1, c2⟩
  · rw [if_neg (show ¬ y1.1 = 0 by rw [c1]; decide)]
    have hx := (wt_tnI c2).symm
    obtain ⟨l, hl⟩ : ∃ l : Nat, l = Int32.toNatClampNeg x1 := ⟨_, rfl⟩
    rw [← hl] at hx
    have hl26 : l < 26 := by omega
    obtain ⟨m1, m2, m3⟩ := sk0 l hl26
    obtain ⟨m, hm⟩ : ∃ m : Nat, (m : Int) = (wt_ga s 5 l).toInt := ⟨Int32.toNatClampNeg (wt_ga s 5 l), wt_tnI m2.1⟩
    have hm' : (wt_ga z0 111 l).toInt = (m : Int) := by rw [← m1]; exact hm.symm
    have e40 : ∀ i, i < m → wt_ga s 40 (12 * l + i) = wt_ga z0 121 (13 * l + i) := fun i hi => (m3 i (by omega)).1
    refine wt_HH_il (fun c => absurd (wt_clt c) (by omega)) (fun _ => wt_HH_il (fun _ => ?_) (fun c => absurd (wt_ncl c) (by omega)))
    refine wt_HH_r (wh_in n) (fun y2 h2 => ?_)
    obtain ⟨a2, b2⟩ := h2
    rw [a2]
    unfold wp_ap_letter_B15
    refine wt_HH_l (wh_refuse0 n) (fun q hq => ?_)
    subst hq
    dsimp only
    rw [if_pos (show (0 : Nat) = 0 from rfl)]
    rcases b2 with ⟨d1, d2⟩ | ⟨d1, d2, d3⟩
    · have no : ∀ k : Int32, 0 ≤ k.toInt → k.toInt ≤ 7 → ¬ x2 = k := fun k h0 h7 h => by rw [h] at d2; omega
      rw [if_pos (show y2.1 = 0 from d1), if_neg (no 0 (by decide) (by decide)), if_neg (no 1 (by decide) (by decide)), if_neg (no 2 (by decide) (by decide)), if_neg (no 3 (by decide) (by decide)), if_neg (no 4 (by decide) (by decide)), if_neg (no 5 (by decide) (by decide)), if_neg (no 6 (by decide) (by decide)), if_neg (no 7 (by decide) (by decide))]
      exact wt_HH_of (wt_H_some (Q := fun q : Nat × Int32 × wt_St => q.1 = 1) rfl) BAD (fun a b h h' => Or.inl ⟨h, h'⟩)
    · rw [if_neg (show ¬ y2.1 = 0 by rw [d1]; decide)]
      have MD : wt_H (wp_md_letter_B28 n x1 x2 (0 : Int32) z0) (fun y => y = (wu_let z0 l m x2, z0)) := by
        unfold wp_md_letter_B28
        refine wt_H_bh (wh_bad0 n t0) (fun y hy => ?_)
        subst hy
        dsimp only
        rw [if_pos (show (0 : Int32) = 0 from rfl)]
        exact wh_letterLoop n hx hl26 hm' (by omega)
      refine wt_HH_rr MD (fun y hy => ?_)
      subst hy
      have E : ∀ w : Int32, w = wu_let z0 l m x2 → ((0 : Nat) = 1 ∧ wt_gf z0 108 0 = 1) ∨ ((0 : Nat) = 0 ∧ wt_gf z0 108 0 = 0 ∧ w = wu_let z0 l m x2) := fun w hw => Or.inr ⟨rfl, t0, hw⟩
      refine wt_H_if (fun c => wt_H_bh (wh_pieces n hn hx hl26) (fun q hq => by subst hq; exact wt_H_some (E _ (by unfold wu_let; rw [if_pos c]; exact m1)))) (fun c => ?_)
      refine wt_H_if (fun c1 => ?_) (fun c1 => ?_)
      · unfold wp_sk_inCase
        simp only [Option.bind_assoc]
        refine wt_H_bh (wh_ready n hn (a := 40) (x2 := (0 : Int32)) (by decide) hx hl26 m2.1 m2.2) (fun q hq => ?_)
        refine wt_H_some (E _ ?_)
        unfold wu_let
        rw [if_neg c, if_pos c1]
        refine wt_eqI ?_
        rw [hq.2, (wu_f1_go r0 m (by omega)).1, k0, wu_rd_go sk0 hl26]
        unfold wt_go
        rw [wt_tnN hm']
      refine wt_H_if (fun c2 => wt_H_bh (wh_leftOfAll n hn hx hl26 hm.symm (by omega)) (fun q hq => by subst hq; exact wt_H_some (E _ (by unfold wu_let; rw [if_neg c, if_neg c1, if_pos c2]; exact wu_fo_congr m (fun i hi a => wu_f2_e (e40 i hi) a)))) ) (fun c2 => ?_)
      refine wt_H_if (fun c3 => wt_H_bh (wh_mostLeft n hn hx hl26 hm.symm (by omega)) (fun q hq => by subst hq; exact wt_H_some (E _ (by unfold wu_let; rw [if_neg c, if_neg c1, if_neg c2, if_pos c3]; exact wu_fo_congr m (fun i hi a => wu_f3_e (e40 i hi) a)))) ) (fun c3 => ?_)
      refine wt_H_if (fun c4 => wt_H_bh (wh_wornOut n hn hx hl26 hm.symm (by omega)) (fun q hq => by subst hq; exact wt_H_some (E _ (by unfold wu_let; rw [if_neg c, if_neg c1, if_neg c2, if_neg c3, if_pos c4]; exact wu_fo_congr m (fun i hi a => wu_f4_e (e40 i hi) a)))) ) (fun c4 => ?_)
      refine wt_H_if (fun c5 => wt_H_bh (wh_look n hn hx (by rw [show wt_ln 9 = 26 from by decide]; exact hl26)) (fun q hq => by subst hq; exact wt_H_some (E _ (by unfold wu_let; rw [if_neg c, if_neg c1, if_neg c2, if_neg c3, if_neg c4, if_pos c5, g0.2 115 (fun h => h)]; exact lc.2.2.1 l hl26)))) (fun c5 => ?_)
      refine wt_H_if (fun c6 => wt_H_bh (wh_look n hn hx (by rw [show wt_ln 10 = 26 from by decide]; exact hl26)) (fun q hq => by subst hq; exact wt_H_some (E _ (by unfold wu_let; rw [if_neg c, if_neg c1, if_neg c2, if_neg c3, if_neg c4, if_neg c5, if_pos c6, g0.2 117 (fun h => h)]; exact lc.2.2.2.1 l hl26)))) (fun c6 => ?_)
      refine wt_H_if (fun c7 => wt_H_bh (wh_look n hn hx (by rw [show wt_ln 7 = 26 from by decide]; exact hl26)) (fun q hq => by subst hq; exact wt_H_some (E _ (by unfold wu_let; rw [if_neg c, if_neg c1, if_neg c2, if_neg c3, if_neg c4, if_neg c5, if_neg c6, g0.2 113 (fun h => h)]; exact (lc.2.1 l hl26).1)))) (fun c7 => ?_)
      have n0 : ∀ k : Int32, ¬ x2 = k → x2.toInt ≠ k.toInt := fun k h e => h (wt_eqI e)
      have m0 := n0 0 c
      have m1 := n0 1 c1
      have m2 := n0 2 c2
      have m3 := n0 3 c3
      have m4 := n0 4 c4
      have m5 := n0 5 c5
      have m6 := n0 6 c6
      have m7 := n0 7 c7
      have k1 : (1 : Int32).toInt = 1 := by decide
      have k2 : (2 : Int32).toInt = 2 := by decide
      have k3 : (3 : Int32).toInt = 3 := by decide
      have k4 : (4 : Int32).toInt = 4 := by decide
      have k5 : (5 : Int32).toInt = 5 := by decide
      have k6 : (6 : Int32).toInt = 6 := by decide
      omega
  · rw [if_pos (show y1.1 = 0 from c1)]
    have C : wt_H (if x1 < 0 then wp_ap_letter_B10 n x1 x2 s else if x1 < (26 : Int32) then wp_ap_letter_B15 n x1 x2 (0 : Int32) s else wp_ap_letter_B10 n x1 x2 s) (fun q => q.1 = 1) := wt_H_if (fun _ => CB) (fun c => wt_H_if (fun d => by have := wt_ncl c; have := wt_clt d; omega) (fun _ => CB))
    exact wt_HH_of C BAD (fun a b h h' => Or.inl ⟨h, h'⟩)
theorem wr_piece (n : Nat) (hn : 4294967297 < n) {x1 x2 x3 : Int32} {s z : wt_St} (v : wt_IV z) (rl : wu_RL s z) : wt_HH (wp_ap_piece n x1 x2 x3 s) (wp_md_piece n x1 x2 x3 z) (fun q y => (q.1 = 3 ∧ wt_gf y.2 108 0 = 1) ∨ (q.1 = 1 ∧ wt_gf y.2 108 0 = 2) ∨ (q.1 = 0 ∧ wt_gf y.2 108 0 = 0 ∧ q.2.1 = y.1)) := by
  have k0 : (0 : Int32).toInt = 0 := by decide
  have k1 : (1 : Int32).toInt = 1 := by decide
  have k26 : (26 : Int32).toInt = 26 := by decide
  obtain ⟨-, -, -, lc, -, sc, -⟩ := rl
  have sk := wu_SK_of lc sc
  unfold wp_ap_piece wp_md_piece
  obtain ⟨z0, ε0⟩ : ∃ o : wt_St, o = wt_sf z 108 0 (0 : Int32) := ⟨_, rfl⟩
  rw [← ε0]
  have g0 := wt_fr_sf ε0
  have t0 : wt_gf z0 108 0 = 0 := wt_v_sf ε0
  have sk0 : wu_SK 40 s z0 := wu_SK_fr sk (wt_fr.rf (F := fun _ _ => False) (A := fun _ => False)) g0 ⟨fun h => h, fun h => h, fun h => h⟩ ⟨fun h => h, fun h => h, fun h => h⟩
  have CB : wt_H (wp_ap_piece_B10 n x1 x2 x3 s) (fun q => q.1 = 1) := by
    unfold wp_ap_piece_B10 wp_ap_piece_B15
    refine wt_H_bh (wh_refuse1 n) (fun q hq => ?_)
    subst hq
    dsimp only
    rw [if_neg (show ¬ ((1 : Nat) = 0) by decide)]
    exact wt_H_some rfl
  refine wt_HH_r (wh_isLetter n) (fun y1 h1 => ?_)
  obtain ⟨a1, b1⟩ := h1
  rw [a1]
  rcases b1 with ⟨c1, c2, c3⟩ | ⟨c1, c2⟩
  · rw [if_neg (show ¬ y1.1 = 0 by rw [c1]; decide)]
    have hx := (wt_tnI c2).symm
    obtain ⟨l, hl⟩ : ∃ l : Nat, l = Int32.toNatClampNeg x1 := ⟨_, rfl⟩
    rw [← hl] at hx
    have hl26 : l < 26 := by omega
    obtain ⟨m1, m2, m3⟩ := sk0 l hl26
    refine wt_HH_il (fun c => absurd (wt_clt c) (by omega)) (fun _ => wt_HH_il (fun _ => ?_) (fun c => absurd (wt_ncl c) (by omega)))
    unfold wp_ap_piece_B15 wp_md_piece_B18
    refine wt_HH_l (wh_refuse0 n) (fun q hq => ?_)
    subst hq
    dsimp only
    rw [if_pos (show (0 : Nat) = 0 from rfl)]
    refine wt_HH_r (wh_bad0 n t0) (fun y hy => ?_)
    subst hy
    dsimp only
    rw [if_pos (show (0 : Int32) = 0 from rfl)]
    refine wt_HH_gr (fun _ => ?_)
    rw [← hl]
    have es := wt_subE (x := wt_ga z0 111 l) (y := (1 : Int32)) (by rw [← m1]; omega) (by rw [← m1]; omega)
    rw [← m1] at es
    rw [← m1]
    refine wt_HH_r (wh_in n) (fun y2 h2 => ?_)
    obtain ⟨a2, b2⟩ := h2
    rw [a2]
    rcases b2 with ⟨d1, d2⟩ | ⟨d1, d2, d3⟩
    · rw [if_pos (show y2.1 = 0 from d1)]
      have M : wt_H (wp_md_piece_B47 n x1 x2 x3 (1 : Int32) z0) (fun y => wt_gf y.2 108 0 = 1) := by
        unfold wp_md_piece_B47
        refine wt_H_bh (wh_bad1 n t0 (by decide)) (fun y hy => ?_)
        subst hy
        dsimp only
        rw [if_neg (show ¬ ((1 : Int32) = 0) by decide)]
        exact wt_H_some (wt_v_sf rfl)
      have C3 : wt_H (wp_ap_piece_B34 n s) (fun q => q.1 = 3) := by
        unfold wp_ap_piece_B34
        exact wt_H_some rfl
      refine wt_HH_rr M (fun y hy => ?_)
      refine wt_H_if (fun _ => C3.imp (fun q hq => Or.inl ⟨hq, hy⟩)) (fun c => ?_)
      refine wt_H_bh (wh_pieces n hn hx hl26) (fun q4 h4 => ?_)
      subst h4
      have c' := wt_ncl c
      exact wt_H_if (fun e => absurd (wt_clt e) (by dsimp only; omega)) (fun _ => C3.imp (fun q hq => Or.inl ⟨hq, hy⟩))
    · rw [if_neg (show ¬ y2.1 = 0 by rw [d1]; decide)]
      refine wt_HH_il (fun c => absurd (wt_clt c) (by omega)) (fun _ => ?_)
      refine wt_HH_l (wh_pieces n hn hx hl26) (fun q4 h4 => ?_)
      subst h4
      dsimp only
      refine wt_HH_il (fun _ => ?_) (fun c => absurd (wt_ncl c) (by omega))
      unfold wp_md_piece_B47
      refine wt_HH_r (wh_bad0 n t0) (fun y hy => ?_)
      subst hy
      dsimp only
      rw [if_pos (show (0 : Int32) = 0 from rfl)]
      refine wt_HH_r (wh_in n) (fun y3 h3 => ?_)
      obtain ⟨a3, b3⟩ := h3
      rw [a3]
      have B : wt_H (wp_ap_piece_B53 n x1 x2 x3 s) (fun q => q.1 = 1) := by
        unfold wp_ap_piece_B53 wp_ap_piece_B58
        refine wt_H_bh (wh_refuse1 n) (fun q hq => ?_)
        subst hq
        dsimp only
        rw [if_neg (show ¬ ((1 : Nat) = 0) by decide)]
        exact wt_H_some rfl
      rcases b3 with ⟨f1, f2⟩ | ⟨f1, f2, f3⟩
      · rw [if_pos (show y3.1 = 0 from f1)]
        have M : wt_H (wp_md_piece_B69 n x1 x2 x3 (1 : Int32) z0) (fun y => wt_gf y.2 108 0 = 2) := by
          unfold wp_md_piece_B69
          refine wt_H_bh (wh_bad1 n t0 (by decide)) (fun y hy => ?_)
          subst hy
          dsimp only
          rw [if_neg (show ¬ ((1 : Int32) = 0) by decide)]
          exact wt_H_some (wt_v_sf rfl)
        refine wt_HH_rr M (fun y hy => ?_)
        exact wt_H_if (fun _ => B.imp (fun q hq => Or.inr (Or.inl ⟨hq, hy⟩))) (fun c => wt_H_if (fun d => by have := wt_ncl c; have := wt_cle d; omega) (fun _ => B.imp (fun q hq => Or.inr (Or.inl ⟨hq, hy⟩))))
      · rw [if_neg (show ¬ y3.1 = 0 by rw [f1]; decide)]
        refine wt_HH_il (fun c => absurd (wt_clt c) (by omega)) (fun _ => wt_HH_il (fun _ => ?_) (fun c => absurd (wt_ncle c) (by omega)))
        unfold wp_ap_piece_B58 wp_md_piece_B69
        refine wt_HH_l (wh_refuse0 n) (fun q hq => ?_)
        subst hq
        dsimp only
        rw [if_pos (show (0 : Nat) = 0 from rfl)]
        refine wt_HH_r (wh_bad0 n t0) (fun y hy => ?_)
        subst hy
        dsimp only
        rw [if_pos (show (0 : Int32) = 0 from rfl)]
        have ep := wt_piece hx hl26 d2 (by omega)
        have e2 := wt_tnI d2
        obtain ⟨p1, p2⟩ := m3 (Int32.toNatClampNeg x2) (by omega)
        unfold wp_ap_piece_B82
        refine wt_HH_il (fun c => ?_) (fun c => ?_)
        · rw [if_pos c]
          refine wt_HH_l (wh_look n hn (k := 12 * l + Int32.toNatClampNeg x2) ep (by rw [show wt_ln 40 = 312 from by decide]; omega)) (fun q9 h9 => ?_)
          subst h9
          refine wt_HH_r (wh_cell n (l := l) (i := Int32.toNatClampNeg x2) hx (by omega) hl26 (by omega)) (fun y9 h9 => ?_)
          obtain ⟨a9, b9⟩ := h9
          rw [a9]
          refine wt_HH_gr (fun _ => wt_HH_some (Or.inr (Or.inr ⟨rfl, t0, ?_⟩)))
          show wt_ga s 40 (12 * l + Int32.toNatClampNeg x2) = wt_ga z0 121 (Int32.toNatClampNeg y9.1)
          rw [wt_tnN b9]
          exact p1
        · rw [if_neg c]
          refine wt_HH_l (wh_look n hn (k := 12 * l + Int32.toNatClampNeg x2) ep (by rw [show wt_ln 41 = 312 from by decide]; omega)) (fun q9 h9 => ?_)
          subst h9
          refine wt_HH_r (wh_cell n (l := l) (i := Int32.toNatClampNeg x2) hx (by omega) hl26 (by omega)) (fun y9 h9 => ?_)
          obtain ⟨a9, b9⟩ := h9
          rw [a9]
          refine wt_HH_gr (fun _ => wt_HH_some (Or.inr (Or.inr ⟨rfl, t0, ?_⟩)))
          show wt_ga s 41 (12 * l + Int32.toNatClampNeg x2) = wt_ga z0 124 (Int32.toNatClampNeg y9.1)
          rw [wt_tnN b9]
          exact p2
  · rw [if_pos (show y1.1 = 0 from c1)]
    have M : wt_H (wp_md_piece_B18 n x1 x2 x3 (1 : Int32) z0) (fun y => wt_gf y.2 108 0 = 2) := by
      unfold wp_md_piece_B18
      refine wt_H_bh (wh_bad1 n t0 (by decide)) (fun y hy => ?_)
      subst hy
      dsimp only
      rw [if_neg (show ¬ ((1 : Int32) = 0) by decide)]
      exact wt_H_some (wt_v_sf rfl)
    have C : wt_H (if x1 < 0 then wp_ap_piece_B10 n x1 x2 x3 s else if x1 < (26 : Int32) then wp_ap_piece_B15 n x1 x2 x3 (0 : Int32) s else wp_ap_piece_B10 n x1 x2 x3 s) (fun q => q.1 = 1) := wt_H_if (fun _ => CB) (fun c => wt_H_if (fun d => by have := wt_ncl c; have := wt_clt d; omega) (fun _ => CB))
    exact wt_HH_of C M (fun a b h h' => Or.inr (Or.inl ⟨h, h'⟩))
