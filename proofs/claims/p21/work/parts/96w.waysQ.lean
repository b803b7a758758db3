-- 96w.ways.lean.txt
section WTQ0
/-! how many wordings there are: from the last place on -/
theorem wu_FZ_eq {s s' : wt_St} (e : ∀ i, i < 40 → ∀ j, wt_ga s' i j = wt_ga s i j) : (∀ w, wu_F s' w = wu_F s w) ∧ (∀ w, wu_Z s' w = wu_Z s w) ∧ (∀ w v, wu_of s' w v = wu_of s w v) ∧ ∀ w v, wu_mf s' w v = wu_mf s w v := by
  refine ⟨fun w => ?_, fun w => ?_, fun w v => ?_, fun w v => ?_⟩
  · unfold wu_F
    rw [e 24 (by omega), e 25 (by omega)]
  · unfold wu_Z
    rw [e 24 (by omega), e 26 (by omega)]
  · unfold wu_of
    rw [e 24 (by omega), e 24 (by omega)]
  · unfold wu_mf
    rw [e 23 (by omega), e 23 (by omega), e 11 (by omega)]
def wu_wy (s : wt_St) (W m : Nat) (o : Nat → Nat) : Nat → Nat → Int
  | 0, _ => 1
  | d + 1, w => wt_sum (fun v => if (wu_of s (o (m - 1 - d)) v && wu_mf s w v) = true then wu_wy s W m o d v else 0) W
def wu_p5 : Nat → Int
  | 0 => 1
  | d + 1 => 5 * wu_p5 d
theorem wu_p5_bd : ∀ d, d < 12 → 1 ≤ wu_p5 d ∧ wu_p5 d ≤ 48828125 := by decide +kernel
theorem wu_seg {s : wt_St} {W G w : Nat} (gs : wt_gs 20 W G s) (hG : G ≤ 20) (hW : W ≤ 60) (hw : w < W) (P : Nat → Bool) (f : Nat → Int) : wt_sum (fun v => if (wu_of s w v && P v) = true then f v else 0) W = wt_sum (fun k => if P (wu_F s w + k) = true then f (wu_F s w + k) else 0) (wu_Z s w) := by
  obtain ⟨-, -, ⟨z1, z2, z3⟩, z4⟩ := wu_grp gs hG hW hw
  rw [wu_sum_seg (F := wu_F s w) (S := wu_Z s w) z3 (fun v hv => ?_) (fun v h1 h2 => ?_)]
  · refine wt_sum_congr _ (fun k hk => ?_)
    show (if (wu_of s w (wu_F s w + k) && P (wu_F s w + k)) = true then f (wu_F s w + k) else 0) = if P (wu_F s w + k) = true then f (wu_F s w + k) else 0
    rw [(z4 (wu_F s w + k) (by omega)).mpr (by omega), Bool.true_and]
  · show (if (wu_of s w v && P v) = true then f v else 0) = 0
    have : wu_of s w v = false := by
      cases h : wu_of s w v
      · rfl
      · have := (z4 v (by omega)).mp h
        omega
    rw [this, Bool.false_and, if_neg (by decide)]
  · show (if (wu_of s w v && P v) = true then f v else 0) = 0
    have : wu_of s w v = false := by
      cases h : wu_of s w v
      · rfl
      · have := (z4 v h2).mp h
        omega
    rw [this, Bool.false_and, if_neg (by decide)]
theorem wu_wy_bd {s z : wt_St} {t m W G : Nat} {o : Nat → Nat} (R : wu_RW s z t m W G o) : ∀ d, d < m → ∀ w, 0 ≤ wu_wy s W m o d w ∧ wu_wy s W m o d w ≤ wu_p5 d := by
  obtain ⟨⟨-, h2, h3, h4, h5⟩, -, h8, -, gs, -⟩ := R
  intro d
  induction d with
  | zero => exact fun _ w => ⟨by show (0 : Int) ≤ 1; omega, Int.le_refl _⟩
  | succ d ih =>
    intro hd w
    have hw := (h8 (m - 1 - d) (by omega)).1
    obtain ⟨-, -, ⟨z1, z2, z3⟩, -⟩ := wu_grp gs h5 h4 hw
    have e : wu_wy s W m o (d + 1) w = wt_sum (fun k => if wu_mf s w (wu_F s (o (m - 1 - d)) + k) = true then wu_wy s W m o d (wu_F s (o (m - 1 - d)) + k) else 0) (wu_Z s (o (m - 1 - d))) := wu_seg gs h5 h4 hw (fun v => wu_mf s w v) (fun v => wu_wy s W m o d v)
    have p := wu_p5_bd d (by omega)
    have b := wt_sum_bd (f := fun k => if wu_mf s w (wu_F s (o (m - 1 - d)) + k) = true then wu_wy s W m o d (wu_F s (o (m - 1 - d)) + k) else 0) (c := wu_p5 d) (wu_Z s (o (m - 1 - d))) (fun k _ => by
      have i := ih (by omega) (wu_F s (o (m - 1 - d)) + k)
      show 0 ≤ (if wu_mf s w (wu_F s (o (m - 1 - d)) + k) = true then wu_wy s W m o d (wu_F s (o (m - 1 - d)) + k) else 0) ∧ (if wu_mf s w (wu_F s (o (m - 1 - d)) + k) = true then wu_wy s W m o d (wu_F s (o (m - 1 - d)) + k) else 0) ≤ wu_p5 d
      split <;> omega)
    have mm : wu_p5 d * (wu_Z s (o (m - 1 - d)) : Int) ≤ wu_p5 d * 5 := Int.mul_le_mul_of_nonneg_left (by omega) (by omega)
    have pe : wu_p5 (d + 1) = 5 * wu_p5 d := rfl
    rw [e]
    omega
theorem wh_sumAt (n : Nat) (hn : 4294967297 < n) {s z : wt_St} {t m W G i k : Nat} {o : Nat → Nat} {x1 x2 x3 : Int32} (R : wu_RW s z t m W G o) (h1 : x1.toInt = (t : Int)) (h2 : x2.toInt = (i : Int)) (hi : i < m) (h3 : x3.toInt = ((wu_F s (o i) + k : Nat) : Int)) (hk : k < wu_Z s (o i)) : wt_H (wp_rw_sumAt n x1 x2 x3 s) (fun q => q = (wt_ga s 82 (5 * i + k), s)) := by
  have k5 : (5 : Int32).toInt = 5 := by decide
  have R' := R
  obtain ⟨⟨-, -, a3, a4, a5⟩, -, a8, -, gs, -⟩ := R'
  have hw := (a8 i hi).1
  obtain ⟨-, -, ⟨z1, z2, z3⟩, -⟩ := wu_grp gs a5 a4 hw
  unfold wp_rw_sumAt
  refine wt_H_bh (wh_wordAtR n hn R h1 h2 hi) (fun q1 e1 => ?_)
  rw [e1.1]
  refine wt_H_bh (wh_first n hn gs a5 a4 hw e1.2) (fun q2 e2 => ?_)
  rw [e2.1]
  have em := wt_mulR (x := x2) k5 (by omega) (by omega)
  have ea := wt_addE (x := x2 * (5 : Int32)) (y := x3) (by omega) (by omega)
  have es := wt_subE (x := x2 * (5 : Int32) + x3) (y := q2.1) (by omega) (by omega)
  refine wt_H_bh (wh_look n hn (k := 5 * i + k) (by omega) (by rw [show wt_ln 82 = 60 from by decide]; omega)) (fun q3 e3 => ?_)
  subst e3
  exact wt_H_some rfl
set_option maxHeartbeats 1000000 in
theorem wh_waysBehind (n : Nat) (hn : 4294967297 < n) {s z : wt_St} {t m W G i : Nat} {o : Nat → Nat} {x1 x2 x3 : Int32} {P : Nat → Bool} {y : Nat → Int} (R : wu_RW s z t m W G o) (h1 : x1.toInt = (t : Int)) (h2 : x2.toInt = (i : Int) - 1) (hi : i < m) (hy : ∀ k, k < wu_Z s (o i) → (wt_ga s 82 (5 * i + k)).toInt = y (wu_F s (o i) + k) ∧ 0 ≤ y (wu_F s (o i) + k) ∧ y (wu_F s (o i) + k) ≤ 48828125) (mf : ∀ (v : Nat) (u : Int32), v < W → u.toInt = (v : Int) → wt_H (wp_rw_mayFollow n x3 u s) (fun q => q.2 = s ∧ ((q.1 = 1 ∧ P v = true) ∨ (q.1 = 0 ∧ P v = false)))) : wt_H (wp_rw_waysBehind n x1 x2 x3 s) (fun q => q.2 = s ∧ q.1.toInt = wt_sum (fun k => if P (wu_F s (o i) + k) = true then y (wu_F s (o i) + k) else 0) (wu_Z s (o i))) := by
  have k0 : (0 : Int32).toInt = 0 := by decide
  have R' := R
  obtain ⟨⟨a1, -, a3, a4, a5⟩, ⟨a6, -, -⟩, a8, -, gs, -⟩ := R'
  have hw := (a8 i hi).1
  obtain ⟨-, -, ⟨z1, z2, z3⟩, -⟩ := wu_grp gs a5 a4 hw
  have e2 := wt_i1 (c := x2) (by omega)
  unfold wp_rw_waysBehind
  refine wt_H_bh (wh_lengthOf n hn h1 a1 a6) (fun q1 e1 => ?_)
  rw [if_pos (show (x2 + (1 : Int32)) < q1.1 from Int32.lt_iff_toInt_lt.mpr (by omega)), e1.1]
  refine wt_H_bh (wh_wordAtR n hn R h1 (i := i) (by omega) hi) (fun q3 e3 => ?_)
  rw [e3.1]
  refine wt_H_it (fun u : Int32 × Int32 × wt_St => u.2.2 = s ∧ (0 ≤ u.2.1.toInt ∧ u.2.1.toInt ≤ (wu_Z s (o i) : Int)) ∧ u.1.toInt = wt_sum (fun k => if P (wu_F s (o i) + k) = true then y (wu_F s (o i) + k) else 0) (Int32.toNatClampNeg u.2.1)) (fun K u I hK => ?_) n _ ⟨rfl, ⟨by show 0 ≤ ((0 : Int32)).toInt; omega, by show ((0 : Int32)).toInt ≤ _; omega⟩, by show ((0 : Int32)).toInt = wt_sum _ (Int32.toNatClampNeg (0 : Int32)); rw [wt_tn0, k0]; rfl⟩
  obtain ⟨i0, ⟨i1, i2⟩, i3⟩ := I
  have eu := wt_tnI i1
  unfold wp_rw_waysBehind_B38
  rw [i0]
  refine wt_H_bh (wh_members n hn gs a5 a4 hw e3.2) (fun q4 e4 => ?_)
  rw [e4.1]
  refine wt_H_if (fun c => ?_) (fun c => ?_)
  · have c' := wt_cle c
    refine wt_H_some ⟨rfl, ?_⟩
    show u.1.toInt = _
    rw [i3, show Int32.toNatClampNeg u.2.1 = wu_Z s (o i) by omega]
  · have c' := wt_ncle c
    have ei := wt_i1 (c := u.2.1) (by omega)
    have en : Int32.toNatClampNeg (u.2.1 + (1 : Int32)) = Int32.toNatClampNeg u.2.1 + 1 := by have := wt_tnI (x := u.2.1 + (1 : Int32)) (by omega); omega
    obtain ⟨y1, y2, y3⟩ := hy (Int32.toNatClampNeg u.2.1) (by omega)
    have sb := wt_sum_bd (f := fun k => if P (wu_F s (o i) + k) = true then y (wu_F s (o i) + k) else 0) (c := 48828125) (Int32.toNatClampNeg u.2.1) (fun k hk => by
      obtain ⟨-, p1, p2⟩ := hy k (by omega)
      show 0 ≤ (if P (wu_F s (o i) + k) = true then y (wu_F s (o i) + k) else 0) ∧ (if P (wu_F s (o i) + k) = true then y (wu_F s (o i) + k) else 0) ≤ 48828125
      split <;> omega)
    have sb' : 0 ≤ u.1.toInt ∧ u.1.toInt ≤ 48828125 * (Int32.toNatClampNeg u.2.1 : Int) := by rw [i3]; exact sb
    have N : ∀ w : Int32, w.toInt = (if P (wu_F s (o i) + Int32.toNatClampNeg u.2.1) = true then y (wu_F s (o i) + Int32.toNatClampNeg u.2.1) else 0) → wt_H (wp_rw_waysBehind_B91 n x1 x3 (x2 + (1 : Int32)) q3.1 u.2.1 K u.1 w s) (fun q => q.2 = s ∧ q.1.toInt = wt_sum (fun k => if P (wu_F s (o i) + k) = true then y (wu_F s (o i) + k) else 0) (wu_Z s (o i))) := fun w hw' => by
      have wb : 0 ≤ w.toInt ∧ w.toInt ≤ 48828125 := by
        rw [hw']
        split <;> omega
      have ea := wt_addE (x := u.1) (y := w) (by omega) (by omega)
      unfold wp_rw_waysBehind_B91
      refine hK _ ⟨rfl, ⟨by show 0 ≤ (u.2.1 + (1 : Int32)).toInt; omega, by show (u.2.1 + (1 : Int32)).toInt ≤ _; omega⟩, ?_⟩
      show (u.1 + w).toInt = wt_sum _ (Int32.toNatClampNeg (u.2.1 + (1 : Int32)))
      rw [en, ea, i3, hw']
      rfl
    refine wt_H_bh (wh_first n hn gs a5 a4 hw e3.2) (fun q6 e6 => ?_)
    rw [e6.1]
    have ea := wt_addE (x := q6.1) (y := u.2.1) (by omega) (by omega)
    refine wt_H_bh (mf (wu_F s (o i) + Int32.toNatClampNeg u.2.1) (q6.1 + u.2.1) (by omega) (by omega)) (fun q7 e7 => ?_)
    obtain ⟨e7, e8⟩ := e7
    rw [e7]
    rcases e8 with ⟨p1, p2⟩ | ⟨p1, p2⟩
    · rw [if_neg (show ¬ q7.1 = 0 by rw [p1]; decide)]
      refine wt_H_bh (wh_sumAt n hn R h1 (i := i) (k := Int32.toNatClampNeg u.2.1) (by omega) hi (by omega) (by omega)) (fun q9 e9 => ?_)
      subst e9
      refine N _ ?_
      rw [p2, if_pos rfl]
      exact y1
    · rw [if_pos (show q7.1 = 0 from p1)]
      refine N _ ?_
      rw [p2, if_neg (by decide)]
      exact k0
theorem wh_mayN (n : Nat) {u : Int32} {s : wt_St} : wt_H (wp_rw_mayFollow n (-1 : Int32) u s) (fun q => q.2 = s ∧ ((q.1 = 1 ∧ true = true) ∨ (q.1 = 0 ∧ true = false))) := by
  unfold wp_rw_mayFollow
  rw [if_pos rfl]
  exact wt_H_some ⟨rfl, Or.inl ⟨rfl, rfl⟩⟩
set_option maxHeartbeats 2000000 in
theorem wh_howMany (n : Nat) (hn : 4294967297 < n) {s z : wt_St} {t m W G : Nat} {o : Nat → Nat} {x1 : Int32} (R : wu_RW s z t m W G o) (h1 : x1.toInt = (t : Int)) : wt_H (wp_rw_howMany n x1 s) (fun q => q.1.toInt = wt_sum (fun k => wu_wy s W m o (m - 1) (wu_F s (o 0) + k)) (wu_Z s (o 0)) ∧ 0 ≤ q.1.toInt) := by
  have k0 : (0 : Int32).toInt = 0 := by decide
  have k5 : (5 : Int32).toInt = 5 := by decide
  have R' := R
  obtain ⟨⟨a1, a2, a3, a4, a5⟩, ⟨a6, -, -⟩, a8, -, gs, -⟩ := R'
  have RR : ∀ q, wt_fr (fun _ _ => False) (fun i => i = 82) s q → wu_RW q z t m W G o := fun q f => wu_RW_fr R f (wt_fr.rf (F := fun _ _ => False) (A := fun _ => False)) (fun i hi => by (try dsimp only); omega) (fun h => h) (fun _ _ h => h)
  have EE : ∀ q, wt_fr (fun _ _ => False) (fun i => i = 82) s q → (∀ w, wu_F q w = wu_F s w) ∧ (∀ w, wu_Z q w = wu_Z s w) ∧ (∀ w v, wu_of q w v = wu_of s w v) ∧ ∀ w v, wu_mf q w v = wu_mf s w v := fun q f => wu_FZ_eq (fun i hi => f.2 i (by (try dsimp only); omega))
  unfold wp_rw_howMany
  refine wt_H_bh (wh_lengthOf n hn h1 a1 a6) (fun q1 e1 => ?_)
  rw [e1.1]
  have es := wt_subE (x := q1.1) (y := (1 : Int32)) (by rw [show (1 : Int32).toInt = 1 from by decide]; omega) (by rw [show (1 : Int32).toInt = 1 from by decide]; omega)
  rw [show (1 : Int32).toInt = 1 from by decide] at es
  refine wt_H_it (fun u : Int32 × wt_St => (-1 ≤ u.1.toInt ∧ u.1.toInt < (m : Int)) ∧ wt_fr (fun _ _ => False) (fun i => i = 82) s u.2 ∧ ∀ i : Nat, u.1.toInt < (i : Int) → i < m → ∀ k, k < wu_Z s (o i) → (wt_ga u.2 82 (5 * i + k)).toInt = wu_wy s W m o (m - 1 - i) (wu_F s (o i) + k)) (fun K u I hK => ?_) n _ ⟨⟨by show -1 ≤ (q1.1 - (1 : Int32)).toInt; omega, by show (q1.1 - (1 : Int32)).toInt < _; omega⟩, wt_fr.rf, fun i h1 h2 => absurd (show (q1.1 - (1 : Int32)).toInt < (i : Int) from h1) (by omega)⟩
  obtain ⟨⟨i0, i1⟩, fu, i2⟩ := I
  obtain ⟨eF, eZ, -, eM⟩ := EE u.2 fu
  unfold wp_rw_howMany_B11
  refine wt_H_if (fun c => ?_) (fun c => ?_)
  · have c' := wt_clt c
    have hw := (a8 0 (by omega)).1
    obtain ⟨-, -, ⟨z1, z2, z3⟩, -⟩ := wu_grp gs a5 a4 hw
    refine wt_H_bh (wh_waysBehind n hn (RR _ fu) h1 (i := 0) (P := fun _ => true) (y := fun v => wu_wy s W m o (m - 1) v) (by rw [wt_lm1]; rfl) (by omega) (fun k hk => ?_) (fun v w _ _ => wh_mayN n)) (fun q3 e3 => ?_)
    · rw [eZ] at hk
      have b := wu_wy_bd R (m - 1) (by omega) (wu_F s (o 0) + k)
      have p := wu_p5_bd (m - 1) (by omega)
      rw [eF]
      exact ⟨i2 0 (by omega) (by omega) k hk, b.1, by omega⟩
    · refine wt_H_some ?_
      obtain ⟨-, e3⟩ := e3
      rw [eF, eZ] at e3
      have e4 : wt_sum (fun k => if true = true then wu_wy s W m o (m - 1) (wu_F s (o 0) + k) else 0) (wu_Z s (o 0)) = wt_sum (fun k => wu_wy s W m o (m - 1) (wu_F s (o 0) + k)) (wu_Z s (o 0)) := wt_sum_congr _ (fun k _ => if_pos rfl)
      have nn := wt_sum_bd (f := fun k => wu_wy s W m o (m - 1) (wu_F s (o 0) + k)) (c := wu_p5 (m - 1)) (wu_Z s (o 0)) (fun k _ => wu_wy_bd R (m - 1) (by omega) _)
      show q3.1.toInt = _ ∧ 0 ≤ q3.1.toInt
      rw [e3, e4]
      exact ⟨rfl, nn.1⟩
  · have c' := wt_ncl c
    obtain ⟨i, hi⟩ : ∃ i : Nat, i = Int32.toNatClampNeg u.1 := ⟨_, rfl⟩
    have ei := wt_tnI (x := u.1) (by omega)
    rw [← hi] at ei
    have hw := (a8 i (by omega)).1
    obtain ⟨-, -, ⟨z1, z2, z3⟩, -⟩ := wu_grp gs a5 a4 hw
    obtain ⟨um, eum⟩ : ∃ y : Int32, y = u.1 + (-1 : Int32) := ⟨_, rfl⟩
    have ed : um.toInt = u.1.toInt - 1 := by rw [eum]; exact wt_d1 (by omega)
    refine wt_H_bh (wh_wordAtR n hn (RR _ fu) h1 (i := i) ei.symm (by omega)) (fun q4 e4 => ?_)
    rw [e4.1]
    refine wt_H_it (fun p : Int32 × wt_St => (0 ≤ p.1.toInt ∧ p.1.toInt ≤ (wu_Z s (o i) : Int)) ∧ wt_fr (fun _ _ => False) (fun i => i = 82) s p.2 ∧ (∀ i' : Nat, i < i' → i' < m → ∀ k, k < wu_Z s (o i') → (wt_ga p.2 82 (5 * i' + k)).toInt = wu_wy s W m o (m - 1 - i') (wu_F s (o i') + k)) ∧ ∀ k : Nat, (k : Int) < p.1.toInt → (wt_ga p.2 82 (5 * i + k)).toInt = wu_wy s W m o (m - 1 - i) (wu_F s (o i) + k)) (fun K2 p J hK2 => ?_) n _ ⟨⟨by show 0 ≤ ((0 : Int32)).toInt; omega, by show ((0 : Int32)).toInt ≤ _; omega⟩, fu, fun i' h1 h2 => i2 i' (by omega) h2, fun k hk => absurd (show (k : Int) < ((0 : Int32)).toInt from hk) (by omega)⟩
    obtain ⟨⟨j0, j1⟩, fp, j2, j3⟩ := J
    obtain ⟨pF, pZ, -, pM⟩ := EE p.2 fp
    have ep := wt_tnI j0
    have gsp : wt_gs 20 W G p.2 := (RR _ fp).2.2.2.2.1
    unfold wp_rw_howMany_B28
    refine wt_H_bh (wh_members n hn gsp a5 a4 hw e4.2) (fun q5 e5 => ?_)
    rw [e5.1]
    rw [pZ] at e5
    refine wt_H_if (fun d => ?_) (fun d => ?_)
    · have d' := wt_cle d
      rw [← eum]
      refine hK _ ⟨⟨by show -1 ≤ um.toInt; omega, by show um.toInt < _; omega⟩, fp, fun i' h1 h2 k hk => ?_⟩
      have h1' : um.toInt < (i' : Int) := h1
      by_cases x : i' = i
      · rw [x] at hk ⊢
        exact j3 k (by omega)
      · exact j2 i' (by omega) h2 k hk
    · have d' := wt_ncle d
      have epi := wt_i1 (c := p.1) (by omega)
      refine wt_H_bh (wh_first n hn gsp a5 a4 hw e4.2) (fun q7 e7 => ?_)
      rw [e7.1]
      rw [pF] at e7
      have ea := wt_addE (x := q7.1) (y := p.1) (by omega) (by omega)
      have WB : wt_H (wp_rw_waysBehind n x1 u.1 (q7.1 + p.1) p.2) (fun q => q.2 = p.2 ∧ q.1.toInt = wu_wy s W m o (m - 1 - i) (wu_F s (o i) + Int32.toNatClampNeg p.1)) := by
        by_cases x : i + 1 < m
        · have hw1 := (a8 (i + 1) x).1
          refine (wh_waysBehind n hn (RR _ fp) h1 (i := i + 1) (P := fun v => wu_mf s (wu_F s (o i) + Int32.toNatClampNeg p.1) v) (y := fun v => wu_wy s W m o (m - 1 - (i + 1)) v) (by omega) x (fun k hk => ?_) (fun v w hv hwv => ?_)).imp (fun q hq => ⟨hq.1, ?_⟩)
          · rw [pZ] at hk
            have b := wu_wy_bd R (m - 1 - (i + 1)) (by omega) (wu_F s (o (i + 1)) + k)
            have p5 := wu_p5_bd (m - 1 - (i + 1)) (by omega)
            rw [pF]
            exact ⟨j2 (i + 1) (by omega) x k hk, b.1, by omega⟩
          · have := wh_mayC n hn (RR _ fp) (x := q7.1 + p.1) (y := w) (w := wu_F s (o i) + Int32.toNatClampNeg p.1) (v := v) (by omega) hwv (by omega) hv
            rw [pM] at this
            exact this
          · rw [hq.2, pF, pZ]
            have e : m - 1 - i = (m - 1 - (i + 1)) + 1 := by omega
            rw [e]
            have sg := wu_seg gs a5 a4 hw1 (fun v => wu_mf s (wu_F s (o i) + Int32.toNatClampNeg p.1) v) (fun v => wu_wy s W m o (m - 1 - (i + 1)) v)
            show _ = wt_sum (fun v => if (wu_of s (o (m - 1 - (m - 1 - (i + 1)))) v && wu_mf s (wu_F s (o i) + Int32.toNatClampNeg p.1) v) = true then wu_wy s W m o (m - 1 - (i + 1)) v else 0) W
            rw [show m - 1 - (m - 1 - (i + 1)) = i + 1 by omega]
            exact sg.symm
        · have eu1 := wt_i1 (c := u.1) (by omega)
          unfold wp_rw_waysBehind
          refine wt_H_bh (wh_lengthOf n hn h1 a1 (by rw [fp.2 36 (by decide)]; exact a6)) (fun q1 e1 => ?_)
          rw [if_neg (show ¬ (u.1 + (1 : Int32)) < q1.1 from fun h => by have := wt_clt h; omega), e1.1]
          refine wt_H_some ⟨rfl, ?_⟩
          rw [show m - 1 - i = 0 by omega]
          show ((1 : Int32)).toInt = 1
          decide
      refine wt_H_bh WB (fun q8 e8 => ?_)
      rw [e8.1]
      have em := wt_mulR (x := u.1) k5 (by omega) (by omega)
      have ek := wt_addE (x := u.1 * (5 : Int32)) (y := p.1) (by omega) (by omega)
      refine wt_H_bh (wh_put n (k := 5 * i + Int32.toNatClampNeg p.1) (by omega) (by rw [show wt_ln 82 = 60 from by decide]; omega)) (fun q9 ε => ?_)
      refine hK2 _ ⟨⟨by show 0 ≤ (p.1 + (1 : Int32)).toInt; omega, by show (p.1 + (1 : Int32)).toInt ≤ _; omega⟩, fp.sa ε rfl, fun i' h1 h2 k hk => ?_, fun k hk => ?_⟩
      · obtain ⟨-, -, ⟨-, w2, -⟩, -⟩ := wu_grp gs a5 a4 (a8 i' h2).1
        rw [wt_w_sa ε _ (by omega)]
        exact j2 i' h1 h2 k hk
      · have hk' : (k : Int) < (p.1 + (1 : Int32)).toInt := hk
        show (wt_ga q9 82 (5 * i + k)).toInt = _
        by_cases x : k = Int32.toNatClampNeg p.1
        · rw [x, wt_v_sa ε]
          exact e8.2
        · rw [wt_w_sa ε _ (by omega)]
          exact j3 k (by omega)
end WTQ0
-- 96x.rests.lean.txt
section WTQ1
/-! the reference's rests: the least price of what can follow, and in how many ways -/
def wu_cp (x : Int) : Int := if x ≤ 1000000 then x else 1000000
theorem wu_cp_add {a b : Int} (ha : 0 ≤ a) (hb : 0 ≤ b) : wu_cp (wu_cp a + wu_cp b) = wu_cp (a + b) := by
  unfold wu_cp
  (repeat' split) <;> omega
theorem wu_cp_bd {a : Int} (ha : 0 ≤ a) : 0 ≤ wu_cp a ∧ wu_cp a ≤ 1000000 := by
  unfold wu_cp
  split <;> omega
/-- the least of those that are allowed, none as NONE -/
def wu_bs (f : Nat → Int) (P : Nat → Bool) : Nat → Int
  | 0 => -1
  | n + 1 => if P n = true ∧ f n ≠ -1 ∧ (wu_bs f P n = -1 ∨ f n < wu_bs f P n) then f n else wu_bs f P n
theorem wu_bs_sp {f : Nat → Int} {P : Nat → Bool} : ∀ n : Nat, (wu_bs f P n = -1 ∧ ∀ v, v < n → P v = true → f v = -1) ∨ ∃ v, v < n ∧ P v = true ∧ f v ≠ -1 ∧ wu_bs f P n = f v := by
  intro n
  induction n with
  | zero => exact Or.inl ⟨rfl, fun v hv => absurd hv (by omega)⟩
  | succ n ih =>
    by_cases c : P n = true ∧ f n ≠ -1 ∧ (wu_bs f P n = -1 ∨ f n < wu_bs f P n)
    · have e : wu_bs f P (n + 1) = f n := if_pos c
      exact Or.inr ⟨n, by omega, c.1, c.2.1, e⟩
    · have e : wu_bs f P (n + 1) = wu_bs f P n := if_neg c
      rw [e]
      rcases ih with ⟨a, b⟩ | ⟨v, v1, v2, v3, v4⟩
      · refine Or.inl ⟨a, fun v hv hp => ?_⟩
        by_cases x : v = n
        · rw [x] at hp ⊢
          by_cases y : f n = -1
          · exact y
          · exact absurd ⟨hp, y, Or.inl a⟩ c
        · exact b v (by omega) hp
      · exact Or.inr ⟨v, by omega, v2, v3, v4⟩
theorem wt_sum_ge {f : Nat → Int} {m v : Nat} (h : ∀ k, k < m → 0 ≤ f k) (hv : v < m) : f v ≤ wt_sum f m := by
  have a := wt_sum_pre (f := f) (a := v + 1) m (by omega) h
  have b := wt_sum_pre (f := f) (a := 0) v (by omega) (fun k hk => h k (by omega))
  have e : wt_sum f (v + 1) = wt_sum f v + f v := rfl
  have e0 : wt_sum f 0 = 0 := rfl
  omega
/-- the price of a word, and of the least rest -/
def wu_pw (z : wt_St) (w : Nat) : Int := wt_sum (fun k => (wt_ga z 115 (Int32.toNatClampNeg (wt_ga z (193 + w) k))).toInt) (Int32.toNatClampNeg (wt_ga z 126 w))
def wu_pr (s z : wt_St) (W m : Nat) (o : Nat → Nat) : Nat → Nat → Int
  | 0, w => wu_pw z w
  | d + 1, w => if wu_bs (fun v => wu_pr s z W m o d v) (fun v => wu_of s (o (m - 1 - d)) v && wu_mf s w v) W = -1 then -1 else wu_bs (fun v => wu_pr s z W m o d v) (fun v => wu_of s (o (m - 1 - d)) v && wu_mf s w v) W + wu_pw z w
theorem wu_pw_bd {s z : wt_St} {t m W G w : Nat} {o : Nat → Nat} (R : wu_RW s z t m W G o) (r : wt_RI z) (hw : w < W) : 0 ≤ wu_pw z w ∧ wu_pw z w ≤ 891 := by
  obtain ⟨-, -, -, tt, -⟩ := R
  obtain ⟨a, -, -, b, -⟩ := tt w hw
  have e := wt_tnle (b := 9) (x := wt_ga z 126 w) (by rw [← a]; omega)
  have h := wt_sum_bd (f := fun k => (wt_ga z 115 (Int32.toNatClampNeg (wt_ga z (193 + w) k))).toInt) (c := 99) (Int32.toNatClampNeg (wt_ga z 126 w)) (fun k _ => by
    have g : 0 ≤ (wt_ga z 115 (Int32.toNatClampNeg (wt_ga z (193 + w) k))).toInt ∧ (wt_ga z 115 (Int32.toNatClampNeg (wt_ga z (193 + w) k))).toInt ≤ 99 := wt_Ra18 r 115 (show 114 ≤ 115 by omega) (show 115 < 116 by omega) _
    exact g)
  unfold wu_pw
  omega
theorem wu_pr_sp {s z : wt_St} {t m W G : Nat} {o : Nat → Nat} (R : wu_RW s z t m W G o) (r : wt_RI z) : ∀ d, d < m → ∀ w, w < W → (wu_pr s z W m o d w = -1 ∨ (0 ≤ wu_pr s z W m o d w ∧ wu_pr s z W m o d w ≤ 891 * ((d : Int) + 1))) ∧ (wu_pr s z W m o d w = -1 ↔ wu_wy s W m o d w = 0) := by
  intro d
  induction d with
  | zero =>
    intro _ w hw
    have b := wu_pw_bd R r hw
    have e : wu_pr s z W m o 0 w = wu_pw z w := rfl
    have e2 : wu_wy s W m o 0 w = 1 := rfl
    rw [e, e2]
    exact ⟨Or.inr ⟨b.1, by omega⟩, ⟨fun h => by omega, fun h => by omega⟩⟩
  | succ d ih =>
    intro hd w hw
    have b := wu_pw_bd R r hw
    have e2 : wu_wy s W m o (d + 1) w = wt_sum (fun v => if (wu_of s (o (m - 1 - d)) v && wu_mf s w v) = true then wu_wy s W m o d v else 0) W := rfl
    have nn : ∀ v, v < W → 0 ≤ (if (wu_of s (o (m - 1 - d)) v && wu_mf s w v) = true then wu_wy s W m o d v else 0) := fun v _ => by
      have := (wu_wy_bd R d (by omega) v).1
      split <;> omega
    rcases wu_bs_sp (f := fun v => wu_pr s z W m o d v) (P := fun v => wu_of s (o (m - 1 - d)) v && wu_mf s w v) W with ⟨c1, c2⟩ | ⟨v, v1, v2, v3, v4⟩
    · have e : wu_pr s z W m o (d + 1) w = -1 := if_pos c1
      refine ⟨Or.inl e, ⟨fun _ => ?_, fun _ => e⟩⟩
      rw [e2]
      refine wt_sum_z W (fun v hv => ?_)
      show (if (wu_of s (o (m - 1 - d)) v && wu_mf s w v) = true then wu_wy s W m o d v else 0) = 0
      by_cases p : (wu_of s (o (m - 1 - d)) v && wu_mf s w v) = true
      · rw [if_pos p]
        exact ((ih (by omega) v hv).2).mp (c2 v hv p)
      · rw [if_neg p]
    · have v3' : wu_pr s z W m o d v ≠ -1 := v3
      have v4' : wu_bs (fun v => wu_pr s z W m o d v) (fun v => wu_of s (o (m - 1 - d)) v && wu_mf s w v) W = wu_pr s z W m o d v := v4
      obtain ⟨i1, i2⟩ := ih (by omega) v v1
      have e : wu_pr s z W m o (d + 1) w = wu_pr s z W m o d v + wu_pw z w := by
        show (if wu_bs (fun v => wu_pr s z W m o d v) (fun v => wu_of s (o (m - 1 - d)) v && wu_mf s w v) W = -1 then -1 else wu_bs (fun v => wu_pr s z W m o d v) (fun v => wu_of s (o (m - 1 - d)) v && wu_mf s w v) W + wu_pw z w) = _
        rw [v4', if_neg v3']
      have i1' : 0 ≤ wu_pr s z W m o d v ∧ wu_pr s z W m o d v ≤ 891 * ((d : Int) + 1) := by
        rcases i1 with i1 | i1
        · exact absurd i1 v3'
        · exact i1
      rw [e]
      refine ⟨Or.inr ⟨by omega, by rw [show ((d + 1 : Nat) : Int) = (d : Int) + 1 from rfl]; omega⟩, ⟨fun h => by omega, fun h => ?_⟩⟩
      exfalso
      have g := wt_sum_ge nn v1
      have v2' : (wu_of s (o (m - 1 - d)) v && wu_mf s w v) = true := v2
      have g' : (if (wu_of s (o (m - 1 - d)) v && wu_mf s w v) = true then wu_wy s W m o d v else 0) ≤ wu_wy s W m o (d + 1) w := by
        rw [e2]
        exact g
      rw [if_pos v2'] at g'
      have w0 := (wu_wy_bd R d (by omega) v).1
      exact v3' (i2.mpr (by omega))
theorem wh_priceM (n : Nat) {s z : wt_St} {t m W G w : Nat} {o : Nat → Nat} {x : Int32} (R : wu_RW s z t m W G o) (r : wt_RI z) (hx : x.toInt = (w : Int)) (hw : w < W) : wt_H (wp_md_priceOf n x z) (fun q => q.2 = z ∧ q.1.toInt = wu_pw z w) := by
  have k0 : (0 : Int32).toInt = 0 := by decide
  have R' := R
  obtain ⟨-, -, -, tt, -⟩ := R'
  obtain ⟨a, -, -, b, -, c⟩ := tt w hw
  have ew := wt_tnN hx
  have a' : wt_ga s 22 w = wt_ga z 126 w := a
  have b' : 1 ≤ (wt_ga s 22 w).toInt ∧ (wt_ga s 22 w).toInt ≤ 9 := b
  rw [a'] at b'
  have el := wt_tnI (x := wt_ga z 126 w) (by omega)
  unfold wp_md_priceOf
  refine wt_H_it (fun u : Int32 × Int32 × wt_St => u.2.2 = z ∧ (0 ≤ u.2.1.toInt ∧ u.2.1.toInt ≤ (wt_ga z 126 w).toInt) ∧ u.1.toInt = wt_sum (fun k => (wt_ga z 115 (Int32.toNatClampNeg (wt_ga z (193 + w) k))).toInt) (Int32.toNatClampNeg u.2.1)) (fun K u I hK => ?_) n _ ⟨rfl, ⟨by show 0 ≤ ((0 : Int32)).toInt; omega, by show ((0 : Int32)).toInt ≤ _; omega⟩, by show ((0 : Int32)).toInt = wt_sum _ (Int32.toNatClampNeg (0 : Int32)); rw [wt_tn0, k0]; rfl⟩
  obtain ⟨i0, ⟨i1, i2⟩, i3⟩ := I
  have eu := wt_tnI i1
  unfold wp_md_priceOf_B4
  rw [i0, ew]
  refine wt_H_gd (fun _ => wt_H_if (fun d => ?_) (fun d => ?_))
  · have d' := wt_cle d
    refine wt_H_some ⟨rfl, ?_⟩
    show u.1.toInt = wu_pw z w
    unfold wu_pw
    rw [i3, show Int32.toNatClampNeg u.2.1 = Int32.toNatClampNeg (wt_ga z 126 w) by omega]
  · have d' := wt_ncle d
    have ei := wt_i1 (c := u.2.1) (by omega)
    have en : Int32.toNatClampNeg (u.2.1 + (1 : Int32)) = Int32.toNatClampNeg u.2.1 + 1 := by have := wt_tnI (x := u.2.1 + (1 : Int32)) (by omega); omega
    have g : ∀ j, 0 ≤ (wt_ga z 115 j).toInt ∧ (wt_ga z 115 j).toInt ≤ 99 := fun j => wt_Ra18 r 115 (show 114 ≤ 115 by omega) (show 115 < 116 by omega) j
    have sb := wt_sum_bd (f := fun k => (wt_ga z 115 (Int32.toNatClampNeg (wt_ga z (193 + w) k))).toInt) (c := 99) (Int32.toNatClampNeg u.2.1) (fun k _ => g _)
    have gk := g (Int32.toNatClampNeg (wt_ga z (193 + w) (Int32.toNatClampNeg u.2.1)))
    have ea := wt_addE (x := u.1) (y := wt_ga z 115 (Int32.toNatClampNeg (wt_ga z (193 + w) (Int32.toNatClampNeg u.2.1)))) (by omega) (by omega)
    refine wt_H_gd (fun _ => wt_H_gd (fun _ => wt_H_gd (fun _ => ?_)))
    refine hK _ ⟨rfl, ⟨by show 0 ≤ (u.2.1 + (1 : Int32)).toInt; omega, by show (u.2.1 + (1 : Int32)).toInt ≤ _; omega⟩, ?_⟩
    show (u.1 + wt_ga z 115 (Int32.toNatClampNeg (wt_ga z (193 + w) (Int32.toNatClampNeg u.2.1)))).toInt = wt_sum _ (Int32.toNatClampNeg (u.2.1 + (1 : Int32)))
    rw [en, ea, i3]
    rfl
theorem wh_priceC (n : Nat) (hn : 4294967297 < n) {s z : wt_St} {t m W G w : Nat} {o : Nat → Nat} {x : Int32} (R : wu_RW s z t m W G o) (r : wt_RI z) (hx : x.toInt = (w : Int)) (hw : w < W) : wt_H (wp_rw_priceOf n x s) (fun q => q.2 = s ∧ q.1.toInt = wu_pw z w) := fun q hq => by
  obtain ⟨y, hy, -⟩ := wq_md_priceOf n hn x z r (by omega) (by have := R.1.2.2.2.1; omega)
  have a := wr_priceW n hn R.2.2.2.1 R.1.2.2.2.1 R.2.2.2.2.2.2 hx hw q y hq hy
  exact ⟨a.2.1, by rw [a.1]; exact (wh_priceM n R r hx hw y hy).2⟩
/-- what is laid for a place -/
def wu_LR (s z q : wt_St) (W m : Nat) (o : Nat → Nat) (i w : Nat) : Prop := (wt_ga q (292 + i) w).toInt = (if wu_of s (o i) w = true then wu_pr s z W m o (m - 1 - i) w else -1) ∧ (wt_ga q (305 + i) w).toInt = if wu_of s (o i) w = true then wu_cp (wu_wy s W m o (m - 1 - i) w) else 0
set_option maxHeartbeats 4000000 in
theorem wh_laysRests (n : Nat) (hn : 4294967297 < n) {s z : wt_St} {t m W G : Nat} {o : Nat → Nat} {x1 : Int32} (R : wu_RW s z t m W G o) (r : wt_RI z) (h1 : x1.toInt = (t : Int)) : wt_H (wp_md_laysRests n x1 z) (fun q => wt_fr (fun _ _ => False) (fun i => 292 ≤ i ∧ i < 317) z q ∧ ∀ i, i < m → ∀ w, w < W → wu_LR s z q W m o i w) := by
  have k0 : (0 : Int32).toInt = 0 := by decide
  have k1 : (1 : Int32).toInt = 1 := by decide
  have kM : (1000000 : Int32).toInt = 1000000 := by decide
  have R' := R
  obtain ⟨⟨a1, a2, a3, a4, a5⟩, ⟨-, a6, a7⟩, a8, -, gs, -⟩ := R'
  have et := wt_tnN h1
  have RR : ∀ q, wt_fr (fun _ _ => False) (fun i => 292 ≤ i ∧ i < 317) z q → wu_RW s q t m W G o := fun q f => wu_RW_fr R (wt_fr.rf (F := fun _ _ => False) (A := fun _ => False)) f (fun _ _ h => h) (fun h => h) (fun i hi => by (try dsimp only); omega)
  have NI : ∀ {σ σ' : wt_St} {i j : Nat} {v : Int32}, wt_RI σ → σ' = wt_sa σ i j v → 292 ≤ i → i < 317 → wt_RI σ' := fun h e i1 i2 => wt_RI_no h e 292 317 (by decide +kernel) i1 i2
  have PW : ∀ q w, wt_fr (fun _ _ => False) (fun i => 292 ≤ i ∧ i < 317) z q → w < W → wu_pw q w = wu_pw z w := fun q w f hw => by
    unfold wu_pw
    rw [f.2 126 (by (try dsimp only); omega)]
    exact wt_sum_congr _ (fun k _ => by
      show (wt_ga q 115 (Int32.toNatClampNeg (wt_ga q (193 + w) k))).toInt = (wt_ga z 115 (Int32.toNatClampNeg (wt_ga z (193 + w) k))).toInt
      rw [f.2 (193 + w) (by (try dsimp only); omega), f.2 115 (by (try dsimp only); omega)])
  unfold wp_md_laysRests
  rw [et]
  refine wt_H_gd (fun _ => ?_)
  have es := wt_subE (x := wt_ga z 253 t) (y := (1 : Int32)) (by omega) (by omega)
  refine wt_H_it (fun u : Int32 × wt_St => (-1 ≤ u.1.toInt ∧ u.1.toInt < (m : Int)) ∧ wt_RI u.2 ∧ wt_fr (fun _ _ => False) (fun i => 292 ≤ i ∧ i < 317) z u.2 ∧ ∀ i : Nat, u.1.toInt < (i : Int) → i < m → ∀ w, w < W → wu_LR s z u.2 W m o i w) (fun K u I hK => ?_) n _ ⟨⟨by show -1 ≤ (wt_ga z 253 t - (1 : Int32)).toInt; omega, by show (wt_ga z 253 t - (1 : Int32)).toInt < _; omega⟩, r, wt_fr.rf, fun i h1 h2 => absurd (show (wt_ga z 253 t - (1 : Int32)).toInt < (i : Int) from h1) (by omega)⟩
  obtain ⟨⟨i0, i1⟩, ru, fu, i2⟩ := I
  unfold wp_md_laysRests_B9
  refine wt_H_if (fun c => ?_) (fun c => ?_)
  · have c' := wt_clt c
    exact wt_H_some ⟨fu, fun i hi w hw => i2 i (by omega) hi w hw⟩
  have c' := wt_ncl c
  obtain ⟨i, hi⟩ : ∃ i : Nat, i = Int32.toNatClampNeg u.1 := ⟨_, rfl⟩
  have ei := wt_tnI (x := u.1) (by omega)
  rw [← hi] at ei
  have hw := (a8 i (by omega)).1
  obtain ⟨um, eum⟩ : ∃ y : Int32, y = u.1 + (-1 : Int32) := ⟨_, rfl⟩
  have ed : um.toInt = u.1.toInt - 1 := by rw [eum]; exact wt_d1 (by omega)
  have eu1 := wt_i1 (c := u.1) (by omega)
  refine wt_H_it (fun p : Int32 × wt_St => (0 ≤ p.1.toInt ∧ p.1.toInt ≤ (W : Int)) ∧ wt_RI p.2 ∧ wt_fr (fun _ _ => False) (fun i => 292 ≤ i ∧ i < 317) z p.2 ∧ (∀ i' : Nat, i < i' → i' < m → ∀ w, w < W → wu_LR s z p.2 W m o i' w) ∧ ∀ w : Nat, (w : Int) < p.1.toInt → wu_LR s z p.2 W m o i w) (fun K2 p J hK2 => ?_) n _ ⟨⟨by show 0 ≤ ((0 : Int32)).toInt; omega, by show ((0 : Int32)).toInt ≤ _; omega⟩, ru, fu, fun i' h1 h2 => i2 i' (by omega) h2, fun w hw => absurd (show (w : Int) < ((0 : Int32)).toInt from hw) (by omega)⟩
  obtain ⟨⟨j0, j1⟩, rp, fp, j2, j3⟩ := J
  have ep := wt_tnI j0
  unfold wp_md_laysRests_B15
  rw [fp.1 108 28 (fun h => h)]
  refine wt_H_if (fun d => ?_) (fun d => ?_)
  · have d' := wt_cle d
    rw [← eum]
    refine hK _ ⟨⟨by show -1 ≤ um.toInt; omega, by show um.toInt < _; omega⟩, rp, fp, fun i' h1 h2 w hw' => ?_⟩
    have h1' : um.toInt < (i' : Int) := h1
    by_cases x : i' = i
    · rw [x]
      exact j3 w (by omega)
    · exact j2 i' (by omega) h2 w hw'
  have d' := wt_ncle d
  have epi := wt_i1 (c := p.1) (by omega)
  obtain ⟨w, hww⟩ : ∃ w : Nat, w = Int32.toNatClampNeg p.1 := ⟨_, rfl⟩
  rw [← hww] at ep
  rw [← hi, ← hww, et]
  refine wt_H_gd (fun _ => wt_H_gd (fun _ => wt_H_gd (fun _ => wt_H_gd (fun _ => ?_))))
  obtain ⟨s1, ε1⟩ : ∃ q : wt_St, q = wt_sa p.2 (292 + i) w (-1 : Int32) := ⟨_, rfl⟩
  rw [← ε1]
  obtain ⟨s2, ε2⟩ : ∃ q : wt_St, q = wt_sa s1 (305 + i) w (0 : Int32) := ⟨_, rfl⟩
  rw [← ε2]
  have f1 := wt_fr_sa ε1
  have f2 := wt_fr_sa ε2
  have fs2 : wt_fr (fun _ _ => False) (fun i => 292 ≤ i ∧ i < 317) z s2 := (fp.sa ε1 (by (try dsimp only); omega)).sa ε2 (by (try dsimp only); omega)
  have rs2 : wt_RI s2 := NI (NI rp ε1 (by omega) (by omega)) ε2 (by omega) (by omega)
  -- a row of a state that differs from p.2 at this word of this place alone
  have NX : ∀ q : wt_St, wt_RI q → wt_fr (fun _ _ => False) (fun i => 292 ≤ i ∧ i < 317) z q → (∀ a b, a ≠ 292 + i → a ≠ 305 + i → wt_ga q a b = wt_ga p.2 a b) → (∀ a b, b ≠ w → wt_ga q a b = wt_ga p.2 a b) → wu_LR s z q W m o i w → wt_H (K2 ((p.1 + (1 : Int32)), q)) (fun q => wt_fr (fun _ _ => False) (fun i => 292 ≤ i ∧ i < 317) z q ∧ ∀ i, i < m → ∀ w, w < W → wu_LR s z q W m o i w) := fun q rq fq q1 q2 q3 => by
    refine hK2 _ ⟨⟨by show 0 ≤ (p.1 + (1 : Int32)).toInt; omega, by show (p.1 + (1 : Int32)).toInt ≤ _; omega⟩, rq, fq, fun i' h1 h2 w' hw' => ?_, fun w' hw' => ?_⟩
    · have := j2 i' h1 h2 w' hw'
      unfold wu_LR at this ⊢
      rw [q1 (292 + i') w' (by omega) (by omega), q1 (305 + i') w' (by omega) (by omega)]
      exact this
    · have hw2 : (w' : Int) < (p.1 + (1 : Int32)).toInt := hw'
      show wu_LR s z q W m o i w'
      by_cases x : w' = w
      · rw [x]
        exact q3
      · have := j3 w' (by omega)
        unfold wu_LR at this ⊢
        rw [q2 (292 + i) w' x, q2 (305 + i) w' x]
        exact this
  have D1 : ∀ a b, a ≠ 292 + i → a ≠ 305 + i → wt_ga s2 a b = wt_ga p.2 a b := fun a b h1 h2 => (f2.2 a h2 b).trans (f1.2 a h1 b)
  have D2 : ∀ a b, b ≠ w → wt_ga s2 a b = wt_ga p.2 a b := fun a b hb => by
    by_cases x : a = 305 + i
    · rw [x, wt_w_sa ε2 b hb]
      exact f1.2 (305 + i) (by (try dsimp only); omega) b
    · rw [f2.2 a x b]
      by_cases y : a = 292 + i
      · rw [y, wt_w_sa ε1 b hb]
      · exact f1.2 a y b
  refine wt_H_bh (wh_isOfM n (RR _ fs2) ep.symm (by omega) h1 ei.symm (by omega)) (fun q8 e8 => ?_)
  obtain ⟨e8, e9⟩ := e8
  rw [e8]
  unfold wp_md_laysRests_B279
  rcases e9 with ⟨o1, o2⟩ | ⟨o1, o2⟩
  rotate_left
  · rw [if_pos (show q8.1 = 0 from o1)]
    refine NX s2 rs2 fs2 D1 D2 ⟨?_, ?_⟩
    · rw [o2, if_neg (by decide), f2.2 (292 + i) (by (try dsimp only); omega), wt_v_sa ε1]
      exact wt_lm1
    · rw [o2, if_neg (by decide), wt_v_sa ε2]
      exact k0
  rw [if_neg (show ¬ q8.1 = 0 by rw [o1]; decide), fs2.2 253 (by (try dsimp only); omega)]
  refine wt_H_gd (fun _ => wt_H_if (fun g => ?_) (fun g => ?_))
  · -- the last place
    have g' := wt_ceq g
    have im : i = m - 1 := by omega
    refine wt_H_gd (fun _ => ?_)
    refine wt_H_bh (wh_priceM n (RR _ fs2) rs2 ep.symm (by omega)) (fun q42 h42 => ?_)
    obtain ⟨h42, v42⟩ := h42
    rw [PW _ _ fs2 (by omega)] at v42
    refine wt_H_gd (fun _ => wt_H_gd (fun _ => wt_H_gd (fun _ => ?_)))
    rw [h42]
    obtain ⟨s3, ε3⟩ : ∃ q : wt_St, q = wt_sa s2 (292 + i) w q42.1 := ⟨_, rfl⟩
    rw [← ε3]
    obtain ⟨s4, ε4⟩ : ∃ q : wt_St, q = wt_sa s3 (305 + i) w (1 : Int32) := ⟨_, rfl⟩
    rw [← ε4]
    have f3 := wt_fr_sa ε3
    have f4 := wt_fr_sa ε4
    refine NX s4 (NI (NI rs2 ε3 (by omega) (by omega)) ε4 (by omega) (by omega)) ((fs2.sa ε3 (by (try dsimp only); omega)).sa ε4 (by (try dsimp only); omega)) (fun a b h1 h2 => (f4.2 a h2 b).trans ((f3.2 a h1 b).trans (D1 a b h1 h2))) (fun a b hb => ?_) ⟨?_, ?_⟩
    · by_cases x : a = 305 + i
      · rw [x, wt_w_sa ε4 b hb, f3.2 (305 + i) (by (try dsimp only); omega) b]
        exact D2 _ b hb
      · rw [f4.2 a x b]
        by_cases y : a = 292 + i
        · rw [y, wt_w_sa ε3 b hb]
          exact D2 _ b hb
        · rw [f3.2 a y b]
          exact D2 _ b hb
    · rw [o2, if_pos rfl, f4.2 (292 + i) (by (try dsimp only); omega), wt_v_sa ε3, v42, show m - 1 - i = 0 by omega]
      rfl
    · rw [o2, if_pos rfl, wt_v_sa ε4, k1, show m - 1 - i = 0 by omega]
      rfl
  -- a place ahead of others
  have g' : i + 1 < m := by
    have := wt_nceq g
    omega
  obtain ⟨Pv, hPv⟩ : ∃ Pv : Nat → Bool, Pv = fun v => wu_of s (o (i + 1)) v && wu_mf s w v := ⟨_, rfl⟩
  obtain ⟨dd, hdd⟩ : ∃ dd : Nat, dd = m - 1 - (i + 1) := ⟨_, rfl⟩
  have ei1 : (u.1 + (1 : Int32)).toInt = ((i + 1 : Nat) : Int) := by omega
  have en1 : Int32.toNatClampNeg (u.1 + (1 : Int32)) = i + 1 := wt_tnN ei1
  refine wt_H_it (fun v : Int32 × Int32 × wt_St => (0 ≤ v.2.1.toInt ∧ v.2.1.toInt ≤ (W : Int)) ∧ wt_RI v.2.2 ∧ wt_fr (fun _ _ => False) (fun a => a = 305 + i) s2 v.2.2 ∧ (∀ b, b ≠ w → wt_ga v.2.2 (305 + i) b = wt_ga s2 (305 + i) b) ∧ v.1.toInt = wu_bs (fun x => wu_pr s z W m o dd x) Pv (Int32.toNatClampNeg v.2.1) ∧ (wt_ga v.2.2 (305 + i) w).toInt = wu_cp (wt_sum (fun x => if Pv x = true then wu_wy s W m o dd x else 0) (Int32.toNatClampNeg v.2.1))) (fun K3 v L hK3 => ?_) n _ ⟨⟨by show 0 ≤ ((0 : Int32)).toInt; omega, by show ((0 : Int32)).toInt ≤ _; omega⟩, rs2, wt_fr.rf, fun _ _ => rfl, by show ((-1 : Int32)).toInt = wu_bs _ _ (Int32.toNatClampNeg (0 : Int32)); rw [wt_tn0, wt_lm1]; rfl, by
    show (wt_ga s2 (305 + i) w).toInt = wu_cp (wt_sum _ (Int32.toNatClampNeg (0 : Int32)))
    rw [wt_tn0, wt_v_sa ε2, k0]
    rfl⟩
  obtain ⟨⟨l0, l1⟩, rv, fv, l2, l3, l4⟩ := L
  have ev := wt_tnI l0
  have Fv : wt_fr (fun _ _ => False) (fun i => 292 ≤ i ∧ i < 317) z v.2.2 := wt_fr.tr fs2 fv (fun _ _ h => h) (fun a h => by have h' : a = 305 + i := h; omega)
  have E1 : ∀ a b, a ≠ 292 + i → a ≠ 305 + i → wt_ga v.2.2 a b = wt_ga p.2 a b := fun a b h1 h2 => (fv.2 a h2 b).trans (D1 a b h1 h2)
  have E2 : ∀ a b, b ≠ w → wt_ga v.2.2 a b = wt_ga p.2 a b := fun a b hb => by
    by_cases x : a = 305 + i
    · rw [x, l2 b hb]
      exact D2 _ b hb
    · rw [fv.2 a x b]
      exact D2 _ b hb
  unfold wp_md_laysRests_B97 wp_md_laysRests_B278 wp_md_laysRests_B279
  rw [Fv.1 108 28 (fun h => h), ← hi, ← hww]
  refine wt_H_if (fun h => ?_) (fun h => ?_)
  · -- all that can follow are seen
    have h' := wt_cle h
    have eW : Int32.toNatClampNeg v.2.1 = W := by omega
    rw [eW] at l3 l4
    have many : wu_cp (wu_wy s W m o (m - 1 - i) w) = wu_cp (wt_sum (fun x => if Pv x = true then wu_wy s W m o dd x else 0) W) := by
      rw [show m - 1 - i = dd + 1 by omega, hPv]
      show wu_cp (wt_sum (fun v => if (wu_of s (o (m - 1 - dd)) v && wu_mf s w v) = true then wu_wy s W m o dd v else 0) W) = _
      rw [show m - 1 - dd = i + 1 by omega]
    have prs : wu_pr s z W m o (m - 1 - i) w = if wu_bs (fun x => wu_pr s z W m o dd x) Pv W = -1 then -1 else wu_bs (fun x => wu_pr s z W m o dd x) Pv W + wu_pw z w := by
      rw [show m - 1 - i = dd + 1 by omega, hPv]
      show (if wu_bs (fun v => wu_pr s z W m o dd v) (fun v => wu_of s (o (m - 1 - dd)) v && wu_mf s w v) W = -1 then -1 else wu_bs (fun v => wu_pr s z W m o dd v) (fun v => wu_of s (o (m - 1 - dd)) v && wu_mf s w v) W + wu_pw z w) = _
      rw [show m - 1 - dd = i + 1 by omega]
    have FIN : ∀ y : Int32, y.toInt = wu_pr s z W m o (m - 1 - i) w → wt_H (K2 ((p.1 + (1 : Int32)), wt_sa v.2.2 (292 + i) w y)) (fun q => wt_fr (fun _ _ => False) (fun i => 292 ≤ i ∧ i < 317) z q ∧ ∀ i, i < m → ∀ w, w < W → wu_LR s z q W m o i w) := fun y hy => by
      obtain ⟨s3, ε3⟩ : ∃ q : wt_St, q = wt_sa v.2.2 (292 + i) w y := ⟨_, rfl⟩
      rw [← ε3]
      have f3 := wt_fr_sa ε3
      refine NX s3 (NI rv ε3 (by omega) (by omega)) (Fv.sa ε3 (by (try dsimp only); omega)) (fun a b h1 h2 => (f3.2 a h1 b).trans (E1 a b h1 h2)) (fun a b hb => ?_) ⟨?_, ?_⟩
      · by_cases y : a = 292 + i
        · rw [y, wt_w_sa ε3 b hb]
          exact E2 _ b hb
        · rw [f3.2 a y b]
          exact E2 _ b hb
      · rw [o2, if_pos rfl, wt_v_sa ε3]
        exact hy
      · rw [o2, if_pos rfl, f3.2 (305 + i) (by (try dsimp only); omega), l4, many]
    refine wt_H_gd (fun _ => wt_H_if (fun y => ?_) (fun y => ?_))
    · refine wt_H_gd (fun _ => FIN _ ?_)
      rw [prs, ← l3, y, wt_lm1, if_pos rfl]
    · have y' : v.1.toInt ≠ -1 := fun h => y (wt_eqI (by rw [h, wt_lm1]))
      refine wt_H_bh (wh_priceM n (RR _ Fv) rv ep.symm (by omega)) (fun q15 h15 => ?_)
      obtain ⟨h15, v15⟩ := h15
      rw [PW _ _ Fv (by omega)] at v15
      rw [h15]
      have pb := wu_pw_bd R r (show w < W by omega)
      have sp := wu_bs_sp (f := fun x => wu_pr s z W m o dd x) (P := Pv) W
      have bb : 0 ≤ v.1.toInt ∧ v.1.toInt ≤ 10692 := by
        rw [l3]
        rcases sp with ⟨q, -⟩ | ⟨x, x1, -, x3, x4⟩
        · rw [← l3] at q
          exact absurd q y'
        · rw [x4]
          have x3' : wu_pr s z W m o dd x ≠ -1 := x3
          rcases (wu_pr_sp R r dd (by omega) x x1).1 with q | q
          · exact absurd q x3'
          · exact ⟨q.1, by omega⟩
      have ea := wt_addE (x := v.1) (y := q15.1) (by omega) (by omega)
      refine wt_H_gd (fun _ => FIN _ ?_)
      rw [prs, ← l3, if_neg y', ea, v15]
  have h' := wt_ncle h
  have evi := wt_i1 (c := v.2.1) (by omega)
  have env : Int32.toNatClampNeg (v.2.1 + (1 : Int32)) = Int32.toNatClampNeg v.2.1 + 1 := by have := wt_tnI (x := v.2.1 + (1 : Int32)) (by omega); omega
  obtain ⟨x, hx⟩ : ∃ x : Nat, x = Int32.toNatClampNeg v.2.1 := ⟨_, rfl⟩
  rw [← hx] at ev l3 l4 env
  have hxW : x < W := by omega
  have bsS : wu_bs (fun x => wu_pr s z W m o dd x) Pv (x + 1) = if Pv x = true ∧ wu_pr s z W m o dd x ≠ -1 ∧ (wu_bs (fun x => wu_pr s z W m o dd x) Pv x = -1 ∨ wu_pr s z W m o dd x < wu_bs (fun x => wu_pr s z W m o dd x) Pv x) then wu_pr s z W m o dd x else wu_bs (fun x => wu_pr s z W m o dd x) Pv x := rfl
  have smS : wt_sum (fun x => if Pv x = true then wu_wy s W m o dd x else 0) (x + 1) = wt_sum (fun x => if Pv x = true then wu_wy s W m o dd x else 0) x + if Pv x = true then wu_wy s W m o dd x else 0 := rfl
  have snn := (wt_sum_bd (f := fun x => if Pv x = true then wu_wy s W m o dd x else 0) (c := wu_p5 dd) x (fun k _ => by
    have b := wu_wy_bd R dd (by omega) k
    have p5 := wu_p5_bd dd (by omega)
    show 0 ≤ (if Pv k = true then wu_wy s W m o dd k else 0) ∧ (if Pv k = true then wu_wy s W m o dd k else 0) ≤ wu_p5 dd
    split <;> omega)).1
  have LRx := j2 (i + 1) (by omega) g' x hxW
  have q292 : ∀ b, wt_ga v.2.2 (292 + (i + 1)) b = wt_ga p.2 (292 + (i + 1)) b := fun b => E1 _ b (by omega) (by omega)
  have q305 : ∀ b, wt_ga v.2.2 (305 + (i + 1)) b = wt_ga p.2 (305 + (i + 1)) b := fun b => E1 _ b (by omega) (by omega)
  -- it adds nothing
  have SKIP : (Pv x = true → wu_pr s z W m o dd x = -1) → wt_H (wp_md_laysRests_B247 n x1 u.1 p.1 v.1 v.2.1 K K2 K3 v.2.2) (fun q => wt_fr (fun _ _ => False) (fun i => 292 ≤ i ∧ i < 317) z q ∧ ∀ i, i < m → ∀ w, w < W → wu_LR s z q W m o i w) := fun hs => by
    unfold wp_md_laysRests_B247
    refine hK3 _ ⟨⟨by show 0 ≤ (v.2.1 + (1 : Int32)).toInt; omega, by show (v.2.1 + (1 : Int32)).toInt ≤ _; omega⟩, rv, fv, l2, ?_, ?_⟩
    · show v.1.toInt = wu_bs _ _ (Int32.toNatClampNeg (v.2.1 + (1 : Int32)))
      rw [env, bsS, if_neg (fun q => q.2.1 (hs q.1))]
      exact l3
    · show (wt_ga v.2.2 (305 + i) w).toInt = wu_cp (wt_sum _ (Int32.toNatClampNeg (v.2.1 + (1 : Int32))))
      rw [env, smS]
      have : (if Pv x = true then wu_wy s W m o dd x else 0) = 0 := by
        by_cases q : Pv x = true
        · rw [if_pos q]
          exact ((wu_pr_sp R r dd (by omega) x hxW).2).mp (hs q)
        · rw [if_neg q]
      rw [this, Int.add_zero]
      exact l4
  refine wt_H_bh (wh_isOfM n (RR _ Fv) (x := v.2.1) (v := x) (y2 := u.1 + (1 : Int32)) (i := i + 1) ev.symm hxW h1 ei1 g') (fun q17 h17 => ?_)
  obtain ⟨h17, q17'⟩ := h17
  rw [h17]
  rcases q17' with ⟨b1, b2⟩ | ⟨b1, b2⟩
  rotate_left
  · rw [if_pos (show q17.1 = 0 from b1)]
    exact SKIP (fun q => by rw [hPv] at q; dsimp only at q; rw [b2, Bool.false_and] at q; exact absurd q (by decide))
  rw [if_neg (show ¬ q17.1 = 0 by rw [b1]; decide)]
  refine wt_H_bh (wh_mayM n (RR _ Fv) (x := p.1) (y := v.2.1) (w := w) (v := x) ep.symm ev.symm (by omega) hxW) (fun q19 h19 => ?_)
  obtain ⟨h19, q19'⟩ := h19
  rw [h19]
  rcases q19' with ⟨c1, c2⟩ | ⟨c1, c2⟩
  rotate_left
  · rw [if_pos (show q19.1 = 0 from c1)]
    exact SKIP (fun q => by rw [hPv] at q; dsimp only at q; rw [c2, Bool.and_false] at q; exact absurd q (by decide))
  rw [if_neg (show ¬ q19.1 = 0 by rw [c1]; decide)]
  have Px : Pv x = true := by rw [hPv]; show (wu_of s (o (i + 1)) x && wu_mf s w x) = true; rw [b2, c2]; rfl
  unfold wu_LR at LRx
  rw [b2, if_pos rfl, if_pos rfl, ← hdd, ← q292, ← q305] at LRx
  obtain ⟨L1, L2⟩ := LRx
  rw [en1, ← hx]
  refine wt_H_gd (fun _ => wt_H_gd (fun _ => wt_H_if (fun y => ?_) (fun y => ?_)))
  · exact SKIP (fun _ => by rw [← L1, y, wt_lm1])
  have y' : wu_pr s z W m o dd x ≠ -1 := fun h => y (wt_eqI (by rw [L1, h, wt_lm1]))
  have wyb := wu_wy_bd R dd (by omega) x
  have c2b := wu_cp_bd (a := wu_wy s W m o dd x) wyb.1
  have c1b := wu_cp_bd snn
  have ea := wt_addE (x := wt_ga v.2.2 (305 + i) w) (y := wt_ga v.2.2 (305 + (i + 1)) x) (by omega) (by omega)
  have ADD : ∀ y0 : Int32, y0.toInt = wu_bs (fun x => wu_pr s z W m o dd x) Pv (x + 1) → wt_H (wp_md_laysRests_B185 n x1 u.1 p.1 v.2.1 K K2 K3 y0 v.2.2) (fun q => wt_fr (fun _ _ => False) (fun i => 292 ≤ i ∧ i < 317) z q ∧ ∀ i, i < m → ∀ w, w < W → wu_LR s z q W m o i w) := fun y0 hy0 => by
    unfold wp_md_laysRests_B185 wp_md_laysRests_B246 wp_md_laysRests_B247
    rw [← hi, ← hww, en1, ← hx]
    have PUT : ∀ y2 : Int32, y2.toInt = wu_cp (wt_sum (fun x => if Pv x = true then wu_wy s W m o dd x else 0) (x + 1)) → wt_H (K3 (y0, (v.2.1 + (1 : Int32)), wt_sa v.2.2 (305 + i) w y2)) (fun q => wt_fr (fun _ _ => False) (fun i => 292 ≤ i ∧ i < 317) z q ∧ ∀ i, i < m → ∀ w, w < W → wu_LR s z q W m o i w) := fun y2 hy2 => by
      obtain ⟨s3, ε3⟩ : ∃ q : wt_St, q = wt_sa v.2.2 (305 + i) w y2 := ⟨_, rfl⟩
      rw [← ε3]
      refine hK3 _ ⟨⟨by show 0 ≤ (v.2.1 + (1 : Int32)).toInt; omega, by show (v.2.1 + (1 : Int32)).toInt ≤ _; omega⟩, NI rv ε3 (by omega) (by omega), fv.sa ε3 rfl, fun b hb => (wt_w_sa ε3 b hb).trans (l2 b hb), ?_, ?_⟩
      · show y0.toInt = wu_bs _ _ (Int32.toNatClampNeg (v.2.1 + (1 : Int32)))
        rw [env]
        exact hy0
      · show (wt_ga s3 (305 + i) w).toInt = wu_cp (wt_sum _ (Int32.toNatClampNeg (v.2.1 + (1 : Int32))))
        rw [env, wt_v_sa ε3]
        exact hy2
    have cadd : wu_cp (wt_sum (fun x => if Pv x = true then wu_wy s W m o dd x else 0) (x + 1)) = wu_cp ((wt_ga v.2.2 (305 + i) w).toInt + (wt_ga v.2.2 (305 + (i + 1)) x).toInt) := by
      rw [smS, if_pos Px, l4, L2, wu_cp_add snn wyb.1]
    refine wt_H_gd (fun _ => wt_H_gd (fun _ => wt_H_gd (fun _ => wt_H_gd (fun _ => wt_H_gd (fun _ => wt_H_if (fun q => ?_) (fun q => ?_))))))
    · have q' := wt_cle q
      refine wt_H_gd (fun _ => wt_H_gd (fun _ => wt_H_gd (fun _ => wt_H_gd (fun _ => wt_H_gd (fun _ => PUT _ ?_)))))
      rw [cadd, ea]
      unfold wu_cp
      rw [if_pos (by omega)]
    · have q' := wt_ncle q
      refine wt_H_gd (fun _ => PUT _ ?_)
      rw [cadd, kM]
      unfold wu_cp
      rw [if_neg (by omega)]
  have TAKE : (wu_bs (fun x => wu_pr s z W m o dd x) Pv x = -1 ∨ wu_pr s z W m o dd x < wu_bs (fun x => wu_pr s z W m o dd x) Pv x) → wt_H (wp_md_laysRests_B169 n x1 u.1 p.1 v.2.1 K K2 K3 v.2.2) (fun q => wt_fr (fun _ _ => False) (fun i => 292 ≤ i ∧ i < 317) z q ∧ ∀ i, i < m → ∀ w, w < W → wu_LR s z q W m o i w) := fun hq => by
    unfold wp_md_laysRests_B169
    rw [en1, ← hx]
    refine wt_H_gd (fun _ => wt_H_gd (fun _ => ADD _ ?_))
    rw [bsS, if_pos ⟨Px, y', hq⟩]
    exact L1
  refine wt_H_if (fun q => TAKE (Or.inl (by rw [← l3, q, wt_lm1]))) (fun q => ?_)
  have q' : v.1.toInt ≠ -1 := fun h => q (wt_eqI (by rw [h, wt_lm1]))
  refine wt_H_gd (fun _ => wt_H_gd (fun _ => wt_H_if (fun b => ?_) (fun b => ?_)))
  · have b' := wt_cle b
    refine ADD _ ?_
    rw [bsS, if_neg (fun a => by
      rcases a.2.2 with a | a
      · rw [← l3] at a
        exact q' a
      · omega)]
    exact l3
  · have b' := wt_ncle b
    exact TAKE (Or.inr (by omega))
end WTQ1
-- 96z.least.lean.txt
section WTQ2
/-! least on both sides -/
/-- the first of those that are allowed with the least price, none as NONE -/
def wu_am (f : Nat → Int) (P : Nat → Bool) : Nat → Int
  | 0 => -1
  | n + 1 => if P n = true ∧ f n ≠ -1 ∧ (wu_am f P n = -1 ∨ f n < f (wu_am f P n).toNat) then (n : Int) else wu_am f P n
theorem wu_am_sp {f : Nat → Int} {P : Nat → Bool} : ∀ n : Nat, (wu_am f P n = -1 ∧ ∀ v, v < n → P v = true → f v = -1) ∨ ∃ v, v < n ∧ P v = true ∧ f v ≠ -1 ∧ wu_am f P n = (v : Int) ∧ ∀ u, u < n → P u = true → f u ≠ -1 → f v ≤ f u ∧ (u < v → f v < f u) := by
  intro n
  induction n with
  | zero => exact Or.inl ⟨rfl, fun v hv => absurd hv (by omega)⟩
  | succ n ih =>
    by_cases c : P n = true ∧ f n ≠ -1 ∧ (wu_am f P n = -1 ∨ f n < f (wu_am f P n).toNat)
    · have e : wu_am f P (n + 1) = (n : Int) := if_pos c
      refine Or.inr ⟨n, by omega, c.1, c.2.1, e, fun u hu hp hf => ?_⟩
      by_cases x : u = n
      · rw [x]
        exact ⟨Int.le_refl _, fun h => absurd h (by omega)⟩
      · rcases ih with ⟨a, b⟩ | ⟨v, v1, v2, v3, v4, v5⟩
        · exact absurd (b u (by omega) hp) hf
        · have h := v5 u (by omega) hp hf
          have k := c.2.2
          rw [v4] at k
          rcases k with k | k
          · omega
          · have k' : f n < f v := k
            exact ⟨by omega, fun _ => by omega⟩
    · have e : wu_am f P (n + 1) = wu_am f P n := if_neg c
      rw [e]
      rcases ih with ⟨a, b⟩ | ⟨v, v1, v2, v3, v4, v5⟩
      · refine Or.inl ⟨a, fun v hv hp => ?_⟩
        by_cases x : v = n
        · rw [x] at hp ⊢
          by_cases y : f n = -1
          · exact y
          · exact absurd ⟨hp, y, Or.inl a⟩ c
        · exact b v (by omega) hp
      · refine Or.inr ⟨v, by omega, v2, v3, v4, fun u hu hp hf => ?_⟩
        by_cases x : u = n
        · rw [x] at hp hf ⊢
          refine ⟨?_, fun h => by omega⟩
          by_cases y : f n < f v
          · exact absurd ⟨hp, hf, Or.inr (by rw [v4]; exact y)⟩ c
          · omega
        · exact v5 u (by omega) hp hf
/-- it is one and the same, whatever the walk -/
theorem wu_am_u {f g : Nat → Int} {P Q : Nat → Bool} {N M F : Nat} (h1 : ∀ v, v < N → P v = true → F ≤ v ∧ v < F + M ∧ Q (v - F) = true) (h2 : ∀ k, k < M → Q k = true → F + k < N ∧ P (F + k) = true) (h3 : ∀ k, k < M → g k = f (F + k)) : (wu_am f P N = -1 ∧ wu_am g Q M = -1) ∨ ∃ k, k < M ∧ Q k = true ∧ g k ≠ -1 ∧ wu_am g Q M = (k : Int) ∧ wu_am f P N = ((F + k : Nat) : Int) := by
  rcases wu_am_sp (f := f) (P := P) N with ⟨a, b⟩ | ⟨v, v1, v2, v3, v4, v5⟩
  · rcases wu_am_sp (f := g) (P := Q) M with ⟨c, d⟩ | ⟨k, k1, k2, k3, k4, k5⟩
    · exact Or.inl ⟨a, c⟩
    · obtain ⟨q1, q2⟩ := h2 k k1 k2
      rw [h3 k k1] at k3
      exact absurd (b _ q1 q2) k3
  · obtain ⟨p1, p2, p3⟩ := h1 v v1 v2
    have ev : F + (v - F) = v := by omega
    rcases wu_am_sp (f := g) (P := Q) M with ⟨c, d⟩ | ⟨k, k1, k2, k3, k4, k5⟩
    · have := d (v - F) (by omega) p3
      rw [h3 _ (by omega), ev] at this
      exact absurd this v3
    · obtain ⟨q1, q2⟩ := h2 k k1 k2
      have k3' := k3
      rw [h3 k k1] at k3'
      have x := v5 (F + k) q1 q2 k3'
      have y := k5 (v - F) (by omega) p3 (by rw [h3 _ (by omega), ev]; exact v3)
      rw [h3 k k1, h3 (v - F) (by omega), ev] at y
      refine Or.inr ⟨k, k1, k2, k3, k4, ?_⟩
      rw [v4]
      have : v = F + k := by
        rcases Nat.lt_trichotomy v (F + k) with c | c | c
        · have := y.2 (by omega)
          omega
        · exact c
        · have := x.2 c
          omega
      rw [this]
set_option maxHeartbeats 1000000 in
theorem wh_cheapest (n : Nat) (hn : 4294967297 < n) {s z : wt_St} {t m W G i : Nat} {o : Nat → Nat} {x1 x2 x3 : Int32} {P : Nat → Bool} {y : Nat → Int} (R : wu_RW s z t m W G o) (h1 : x1.toInt = (t : Int)) (h2 : x2.toInt = (i : Int) - 1) (hi : i < m) (hy : ∀ k, k < wu_Z s (o i) → (wt_ga s 82 (5 * i + k)).toInt = y (wu_F s (o i) + k) ∧ (y (wu_F s (o i) + k) = -1 ∨ (0 ≤ y (wu_F s (o i) + k) ∧ y (wu_F s (o i) + k) < 1000000))) (mf : ∀ (v : Nat) (u : Int32), v < W → u.toInt = (v : Int) → wt_H (wp_rw_mayFollow n x3 u s) (fun q => q.2 = s ∧ ((q.1 = 1 ∧ P v = true) ∨ (q.1 = 0 ∧ P v = false)))) : wt_H (wp_rw_cheapestBehind n x1 x2 x3 s) (fun q => q.2 = s ∧ ((q.1.toInt = -1 ∧ wu_am (fun k => y (wu_F s (o i) + k)) (fun k => P (wu_F s (o i) + k)) (wu_Z s (o i)) = -1) ∨ ∃ k, k < wu_Z s (o i) ∧ q.1.toInt = ((wu_F s (o i) + k : Nat) : Int) ∧ wu_am (fun k => y (wu_F s (o i) + k)) (fun k => P (wu_F s (o i) + k)) (wu_Z s (o i)) = (k : Int))) := by
  have k0 : (0 : Int32).toInt = 0 := by decide
  have kM : (1000000 : Int32).toInt = 1000000 := by decide
  have R' := R
  obtain ⟨⟨a1, -, a3, a4, a5⟩, -, a8, -, gs, -⟩ := R'
  have hw := (a8 i hi).1
  obtain ⟨-, -, ⟨z1, z2, z3⟩, -⟩ := wu_grp gs a5 a4 hw
  have e2 := wt_i1 (c := x2) (by omega)
  unfold wp_rw_cheapestBehind
  refine wt_H_bh (wh_wordAtR n hn R h1 (i := i) (by omega) hi) (fun q1 e1 => ?_)
  rw [e1.1]
  refine wt_H_it (fun u : Int32 × Int32 × Int32 × wt_St => u.2.2.2 = s ∧ (0 ≤ u.2.2.1.toInt ∧ u.2.2.1.toInt ≤ (wu_Z s (o i) : Int)) ∧ ((u.1.toInt = -1 ∧ u.2.1.toInt = 1000000 ∧ wu_am (fun k => y (wu_F s (o i) + k)) (fun k => P (wu_F s (o i) + k)) (Int32.toNatClampNeg u.2.2.1) = -1) ∨ ∃ k : Nat, (k : Int) < u.2.2.1.toInt ∧ u.1.toInt = ((wu_F s (o i) + k : Nat) : Int) ∧ u.2.1.toInt = y (wu_F s (o i) + k) ∧ wu_am (fun k => y (wu_F s (o i) + k)) (fun k => P (wu_F s (o i) + k)) (Int32.toNatClampNeg u.2.2.1) = (k : Int))) (fun K u I hK => ?_) n _ ⟨rfl, ⟨by show 0 ≤ ((0 : Int32)).toInt; omega, by show ((0 : Int32)).toInt ≤ _; omega⟩, Or.inl ⟨wt_lm1, kM, by show wu_am _ _ (Int32.toNatClampNeg (0 : Int32)) = -1; rw [wt_tn0]; rfl⟩⟩
  obtain ⟨i0, ⟨i1, i2⟩, i3⟩ := I
  have eu := wt_tnI i1
  unfold wp_rw_cheapestBehind_B23
  rw [i0]
  refine wt_H_bh (wh_members n hn gs a5 a4 hw e1.2) (fun q4 e4 => ?_)
  rw [e4.1]
  refine wt_H_if (fun c => ?_) (fun c => ?_)
  · have c' := wt_cle c
    have eZ : Int32.toNatClampNeg u.2.2.1 = wu_Z s (o i) := by omega
    rw [eZ] at i3
    refine wt_H_some ⟨rfl, ?_⟩
    rcases i3 with ⟨a, -, b⟩ | ⟨k, b1, b2, -, b4⟩
    · exact Or.inl ⟨a, b⟩
    · exact Or.inr ⟨k, by omega, b2, b4⟩
  have c' := wt_ncle c
  have ei := wt_i1 (c := u.2.2.1) (by omega)
  obtain ⟨k, hk⟩ : ∃ k : Nat, k = Int32.toNatClampNeg u.2.2.1 := ⟨_, rfl⟩
  have en : Int32.toNatClampNeg (u.2.2.1 + (1 : Int32)) = k + 1 := by have := wt_tnI (x := u.2.2.1 + (1 : Int32)) (by omega); omega
  rw [← hk] at eu i3
  obtain ⟨y1, y2⟩ := hy k (by omega)
  have amS : wu_am (fun k => y (wu_F s (o i) + k)) (fun k => P (wu_F s (o i) + k)) (k + 1) = if P (wu_F s (o i) + k) = true ∧ y (wu_F s (o i) + k) ≠ -1 ∧ (wu_am (fun k => y (wu_F s (o i) + k)) (fun k => P (wu_F s (o i) + k)) k = -1 ∨ y (wu_F s (o i) + k) < y (wu_F s (o i) + (wu_am (fun k => y (wu_F s (o i) + k)) (fun k => P (wu_F s (o i) + k)) k).toNat)) then (k : Int) else wu_am (fun k => y (wu_F s (o i) + k)) (fun k => P (wu_F s (o i) + k)) k := rfl
  unfold wp_rw_cheapestBehind_B94
  have KEEP : ¬ (P (wu_F s (o i) + k) = true ∧ y (wu_F s (o i) + k) ≠ -1 ∧ (wu_am (fun k => y (wu_F s (o i) + k)) (fun k => P (wu_F s (o i) + k)) k = -1 ∨ y (wu_F s (o i) + k) < y (wu_F s (o i) + (wu_am (fun k => y (wu_F s (o i) + k)) (fun k => P (wu_F s (o i) + k)) k).toNat))) → wt_H (K (u.1, u.2.1, (u.2.2.1 + (1 : Int32)), s)) (fun q => q.2 = s ∧ ((q.1.toInt = -1 ∧ wu_am (fun k => y (wu_F s (o i) + k)) (fun k => P (wu_F s (o i) + k)) (wu_Z s (o i)) = -1) ∨ ∃ k, k < wu_Z s (o i) ∧ q.1.toInt = ((wu_F s (o i) + k : Nat) : Int) ∧ wu_am (fun k => y (wu_F s (o i) + k)) (fun k => P (wu_F s (o i) + k)) (wu_Z s (o i)) = (k : Int))) := fun h => by
    refine hK _ ⟨rfl, ⟨by show 0 ≤ (u.2.2.1 + (1 : Int32)).toInt; omega, by show (u.2.2.1 + (1 : Int32)).toInt ≤ _; omega⟩, ?_⟩
    show (u.1.toInt = -1 ∧ u.2.1.toInt = 1000000 ∧ wu_am _ _ (Int32.toNatClampNeg (u.2.2.1 + (1 : Int32))) = -1) ∨ ∃ k : Nat, (k : Int) < (u.2.2.1 + (1 : Int32)).toInt ∧ u.1.toInt = ((wu_F s (o i) + k : Nat) : Int) ∧ u.2.1.toInt = y (wu_F s (o i) + k) ∧ wu_am _ _ (Int32.toNatClampNeg (u.2.2.1 + (1 : Int32))) = (k : Int)
    rw [en, amS, if_neg h]
    rcases i3 with i3 | ⟨k', b1, b2, b3, b4⟩
    · exact Or.inl i3
    · exact Or.inr ⟨k', by omega, b2, b3, b4⟩
  refine wt_H_bh (wh_first n hn gs a5 a4 hw e1.2) (fun q5 e5 => ?_)
  rw [e5.1]
  have ea := wt_addE (x := q5.1) (y := u.2.2.1) (by omega) (by omega)
  refine wt_H_bh (wh_sumAt n hn R h1 (i := i) (k := k) (by omega) hi (by omega) (by omega)) (fun q6 e6 => ?_)
  subst e6
  dsimp only
  refine wt_H_if (fun d => ?_) (fun d => ?_)
  · exact KEEP (fun h => h.2.1 (by rw [← y1, d, wt_lm1]))
  have d' : y (wu_F s (o i) + k) ≠ -1 := fun h => d (wt_eqI (by rw [y1, h, wt_lm1]))
  refine wt_H_if (fun g => ?_) (fun g => ?_)
  · have g' := wt_cle g
    refine KEEP (fun h => ?_)
    rcases i3 with ⟨-, b, -⟩ | ⟨k', b1, b2, b3, b4⟩
    · omega
    · rcases h.2.2 with q | q
      · omega
      · rw [b4] at q
        have q' : y (wu_F s (o i) + k) < y (wu_F s (o i) + k') := q
        omega
  have g' := wt_ncle g
  refine wt_H_bh (mf (wu_F s (o i) + k) (q5.1 + u.2.2.1) (by omega) (by omega)) (fun q8 e8 => ?_)
  obtain ⟨e8, e9⟩ := e8
  rw [e8]
  rcases e9 with ⟨p1, p2⟩ | ⟨p1, p2⟩
  · rw [if_neg (show ¬ q8.1 = 0 by rw [p1]; decide)]
    refine hK _ ⟨rfl, ⟨by show 0 ≤ (u.2.2.1 + (1 : Int32)).toInt; omega, by show (u.2.2.1 + (1 : Int32)).toInt ≤ _; omega⟩, Or.inr ⟨k, by show (k : Int) < (u.2.2.1 + (1 : Int32)).toInt; omega, by show (q5.1 + u.2.2.1).toInt = _; omega, y1, ?_⟩⟩
    show wu_am _ _ (Int32.toNatClampNeg (u.2.2.1 + (1 : Int32))) = (k : Int)
    rw [en, amS]
    refine if_pos ⟨p2, d', ?_⟩
    rcases i3 with ⟨-, -, b⟩ | ⟨k', b1, b2, b3, b4⟩
    · exact Or.inl b
    · rw [b4]
      refine Or.inr ?_
      show y (wu_F s (o i) + k) < y (wu_F s (o i) + k')
      omega
  · rw [if_pos (show q8.1 = 0 from p1)]
    exact KEEP (fun h => by rw [p2] at h; exact absurd h.1 (by decide))
theorem wu_bs_am {f : Nat → Int} {P : Nat → Bool} : ∀ n : Nat, (wu_am f P n = -1 ∧ wu_bs f P n = -1) ∨ ∃ v : Nat, v < n ∧ P v = true ∧ f v ≠ -1 ∧ wu_am f P n = (v : Int) ∧ wu_bs f P n = f v := by
  intro n
  induction n with
  | zero => exact Or.inl ⟨rfl, rfl⟩
  | succ n ih =>
    have ea : wu_am f P (n + 1) = if P n = true ∧ f n ≠ -1 ∧ (wu_am f P n = -1 ∨ f n < f (wu_am f P n).toNat) then (n : Int) else wu_am f P n := rfl
    have eb : wu_bs f P (n + 1) = if P n = true ∧ f n ≠ -1 ∧ (wu_bs f P n = -1 ∨ f n < wu_bs f P n) then f n else wu_bs f P n := rfl
    rcases ih with ⟨a, b⟩ | ⟨v, v1, v2, v3, v4, v5⟩
    · rw [ea, eb, a, b]
      by_cases c : P n = true ∧ f n ≠ -1
      · rw [if_pos ⟨c.1, c.2, Or.inl rfl⟩, if_pos ⟨c.1, c.2, Or.inl rfl⟩]
        exact Or.inr ⟨n, by omega, c.1, c.2, rfl, rfl⟩
      · rw [if_neg (fun h => c ⟨h.1, h.2.1⟩), if_neg (fun h => c ⟨h.1, h.2.1⟩)]
        exact Or.inl ⟨rfl, rfl⟩
    · rw [ea, eb, v4, v5]
      show (_ ∨ _)
      have tn : ((v : Int)).toNat = v := rfl
      rw [tn]
      by_cases c : P n = true ∧ f n ≠ -1 ∧ f n < f v
      · rw [if_pos ⟨c.1, c.2.1, Or.inr c.2.2⟩, if_pos ⟨c.1, c.2.1, Or.inr c.2.2⟩]
        exact Or.inr ⟨n, by omega, c.1, c.2.1, rfl, rfl⟩
      · rw [if_neg (fun h => by
          rcases h.2.2 with q | q
          · omega
          · exact c ⟨h.1, h.2.1, q⟩), if_neg (fun h => by
          rcases h.2.2 with q | q
          · exact v3 q
          · exact c ⟨h.1, h.2.1, q⟩)]
        exact Or.inr ⟨v, by omega, v2, v3, rfl, rfl⟩
/-- over the group, or over all words -/
theorem wu_am_grp {s : wt_St} {W G w : Nat} (gs : wt_gs 20 W G s) (hG : G ≤ 20) (hW : W ≤ 60) (hw : w < W) (P : Nat → Bool) (f : Nat → Int) : (wu_am f (fun v => wu_of s w v && P v) W = -1 ∧ wu_am (fun k => f (wu_F s w + k)) (fun k => P (wu_F s w + k)) (wu_Z s w) = -1) ∨ ∃ k, k < wu_Z s w ∧ P (wu_F s w + k) = true ∧ f (wu_F s w + k) ≠ -1 ∧ wu_am (fun k => f (wu_F s w + k)) (fun k => P (wu_F s w + k)) (wu_Z s w) = (k : Int) ∧ wu_am f (fun v => wu_of s w v && P v) W = ((wu_F s w + k : Nat) : Int) := by
  obtain ⟨-, -, ⟨z1, z2, z3⟩, z4⟩ := wu_grp gs hG hW hw
  refine wu_am_u (fun v hv hp => ?_) (fun k hk hq => ?_) (fun k _ => rfl)
  · have hp' : (wu_of s w v && P v) = true := hp
    rw [Bool.and_eq_true] at hp'
    have := (z4 v hv).mp hp'.1
    refine ⟨this.1, this.2, ?_⟩
    show P (wu_F s w + (v - wu_F s w)) = true
    rw [show wu_F s w + (v - wu_F s w) = v by omega]
    exact hp'.2
  · refine ⟨by omega, ?_⟩
    show (wu_of s w (wu_F s w + k) && P (wu_F s w + k)) = true
    rw [(z4 (wu_F s w + k) (by omega)).mpr (by omega)]
    exact hq
theorem wt_HH_lf {α α' β : Type} {p : Option α} {p' : Option β} {f : α → Option α'} {Q : α' → β → Prop} (h : wt_HH p p' (fun a b => wt_H (f a) (fun c => Q c b))) : wt_HH (p.bind f) p' Q := by
  cases p with
  | none => exact wt_HH_nl
  | some a => exact fun c b e e' => h a b rfl e' c e
set_option maxHeartbeats 2000000 in
theorem wh_leastFrom (n : Nat) (hn : 4294967297 < n) {s σ z : wt_St} {t m W G i k : Nat} {o : Nat → Nat} {x1 x2 x3 : Int32} (R0 : wu_RW s z t m W G o) (R : wu_RW σ z t m W G o) (r : wt_RI z) (eq : (∀ w, wu_F σ w = wu_F s w) ∧ (∀ w, wu_Z σ w = wu_Z s w) ∧ (∀ w v, wu_of σ w v = wu_of s w v) ∧ ∀ w v, wu_mf σ w v = wu_mf s w v) (h1 : x1.toInt = (t : Int)) (h2 : x2.toInt = (i : Int)) (hi : i < m) (hk : k < wu_Z s (o i)) (h3 : x3.toInt = ((wu_F s (o i) + k : Nat) : Int)) (hy : i + 1 < m → ∀ k, k < wu_Z s (o (i + 1)) → (wt_ga σ 82 (5 * (i + 1) + k)).toInt = wu_pr s z W m o (m - 1 - (i + 1)) (wu_F s (o (i + 1)) + k)) : wt_H (wp_rw_leastFrom n x1 x2 x3 σ) (fun q => q.2 = σ ∧ q.1.toInt = wu_pr s z W m o (m - 1 - i) (wu_F s (o i) + k)) := by
  obtain ⟨eF, eZ, eO, eM⟩ := eq
  have R' := R0
  obtain ⟨⟨a1, a2, a3, a4, a5⟩, -, a8, -, gs, -⟩ := R'
  have hw := (a8 i hi).1
  obtain ⟨-, -, ⟨z1, z2, z3⟩, -⟩ := wu_grp gs a5 a4 hw
  have e2 := wt_i1 (c := x2) (by omega)
  have hkW : wu_F s (o i) + k < W := by omega
  unfold wp_rw_leastFrom
  refine wt_H_bh (wh_lengthOf n hn h1 a1 R.2.1.1) (fun q1 e1 => ?_)
  rw [e1.1]
  refine wt_H_if (fun c => ?_) (fun c => ?_)
  · have c' := wt_clt c
    have g : i + 1 < m := by omega
    have hw1 := (a8 (i + 1) g).1
    obtain ⟨-, -, ⟨y1, y2, y3⟩, -⟩ := wu_grp gs a5 a4 hw1
    obtain ⟨dd, hdd⟩ : ∃ dd : Nat, dd = m - 1 - (i + 1) := ⟨_, rfl⟩
    have hyg := hy g
    rw [← hdd] at hyg
    have SP : ∀ k', k' < wu_Z s (o (i + 1)) → wu_pr s z W m o dd (wu_F s (o (i + 1)) + k') = -1 ∨ (0 ≤ wu_pr s z W m o dd (wu_F s (o (i + 1)) + k') ∧ wu_pr s z W m o dd (wu_F s (o (i + 1)) + k') ≤ 891 * ((dd : Int) + 1)) := fun k' hk' => (wu_pr_sp R0 r dd (by omega) (wu_F s (o (i + 1)) + k') (by omega)).1
    have CH := wh_cheapest n hn R (x1 := x1) (x2 := x2) (x3 := x3) (i := i + 1) (P := fun v => wu_mf s (wu_F s (o i) + k) v) (y := fun v => wu_pr s z W m o dd v) h1 (by omega) g (fun k' hk' => by
      rw [eZ] at hk'
      rw [eF]
      refine ⟨hyg k' hk', ?_⟩
      rcases (wu_pr_sp R0 r dd (by omega) (wu_F s (o (i + 1)) + k') (by omega)).1 with q | q
      · exact Or.inl q
      · exact Or.inr ⟨q.1, by omega⟩) (fun v u hv hu => by
      have := wh_mayC n hn R (x := x3) (y := u) h3 hu hkW hv
      rw [eM] at this
      exact this)
    rw [eF, eZ] at CH
    have prS : wu_pr s z W m o (m - 1 - i) (wu_F s (o i) + k) = if wu_bs (fun v => wu_pr s z W m o dd v) (fun v => wu_of s (o (i + 1)) v && wu_mf s (wu_F s (o i) + k) v) W = -1 then -1 else wu_bs (fun v => wu_pr s z W m o dd v) (fun v => wu_of s (o (i + 1)) v && wu_mf s (wu_F s (o i) + k) v) W + wu_pw z (wu_F s (o i) + k) := by
      rw [show m - 1 - i = dd + 1 by omega]
      show (if wu_bs (fun v => wu_pr s z W m o dd v) (fun v => wu_of s (o (m - 1 - dd)) v && wu_mf s (wu_F s (o i) + k) v) W = -1 then -1 else wu_bs (fun v => wu_pr s z W m o dd v) (fun v => wu_of s (o (m - 1 - dd)) v && wu_mf s (wu_F s (o i) + k) v) W + wu_pw z (wu_F s (o i) + k)) = _
      rw [show m - 1 - dd = i + 1 by omega]
    have grp := wu_am_grp gs a5 a4 hw1 (fun v => wu_mf s (wu_F s (o i) + k) v) (fun v => wu_pr s z W m o dd v)
    have bsam := wu_bs_am (f := fun v => wu_pr s z W m o dd v) (P := fun v => wu_of s (o (i + 1)) v && wu_mf s (wu_F s (o i) + k) v) W
    refine wt_H_bh CH (fun q3 e3 => ?_)
    obtain ⟨e3, e4⟩ := e3
    rw [e3]
    rcases e4 with ⟨f1, f2⟩ | ⟨k', f1, f2, f3⟩
    · rw [if_pos (show q3.1 = (-1 : Int32) from wt_eqI (by rw [f1, wt_lm1]))]
      refine wt_H_some ⟨rfl, ?_⟩
      show ((-1 : Int32)).toInt = _
      rw [wt_lm1, prS]
      rcases grp with ⟨g1, -⟩ | ⟨k2, -, -, -, g2, -⟩
      · rcases bsam with ⟨-, b2⟩ | ⟨v, -, -, -, b4, -⟩
        · rw [if_pos b2]
        · have : wu_am (fun v => wu_pr s z W m o dd v) (fun v => wu_of s (o (i + 1)) v && (fun v => wu_mf s (wu_F s (o i) + k) v) v) W = (v : Int) := b4
          omega
      · have g2' : wu_am (fun k_1 => wu_pr s z W m o dd (wu_F s (o (i + 1)) + k_1)) (fun k_1 => wu_mf s (wu_F s (o i) + k) (wu_F s (o (i + 1)) + k_1)) (wu_Z s (o (i + 1))) = (k2 : Int) := g2
        omega
    · rw [if_neg (show ¬ q3.1 = (-1 : Int32) from fun h => by rw [h, wt_lm1] at f2; omega)]
      refine wt_H_bh (wh_priceC n hn R r h3 hkW) (fun q5 e5 => ?_)
      obtain ⟨e5, v5⟩ := e5
      rw [e5]
      refine wt_H_bh (wh_sumAt n hn R h1 (x2 := x2 + (1 : Int32)) (i := i + 1) (k := k') (by omega) g (by rw [eF]; exact f2) (by rw [eZ]; exact f1)) (fun q6 e6 => ?_)
      subst e6
      have v6 := hyg k' f1
      refine wt_H_some ⟨rfl, ?_⟩
      show (q5.1 + wt_ga σ 82 (5 * (i + 1) + k')).toInt = _
      have pb := wu_pw_bd R0 r hkW
      rcases grp with ⟨-, g2⟩ | ⟨k2, g1, g2, g3, g4, g5⟩
      · have g2' : wu_am (fun k_1 => wu_pr s z W m o dd (wu_F s (o (i + 1)) + k_1)) (fun k_1 => wu_mf s (wu_F s (o i) + k) (wu_F s (o (i + 1)) + k_1)) (wu_Z s (o (i + 1))) = -1 := g2
        omega
      · have g4' : wu_am (fun k_1 => wu_pr s z W m o dd (wu_F s (o (i + 1)) + k_1)) (fun k_1 => wu_mf s (wu_F s (o i) + k) (wu_F s (o (i + 1)) + k_1)) (wu_Z s (o (i + 1))) = (k2 : Int) := g4
        have kk : k2 = k' := by omega
        rw [kk] at g3 g5
        have g3' : wu_pr s z W m o dd (wu_F s (o (i + 1)) + k') ≠ -1 := g3
        have sp : 0 ≤ wu_pr s z W m o dd (wu_F s (o (i + 1)) + k') ∧ wu_pr s z W m o dd (wu_F s (o (i + 1)) + k') ≤ 891 * ((dd : Int) + 1) := by
          rcases SP k' f1 with q | q
          · exact absurd q g3'
          · exact q
        have ea := wt_addE (x := q5.1) (y := wt_ga σ 82 (5 * (i + 1) + k')) (by omega) (by omega)
        rcases bsam with ⟨b1, -⟩ | ⟨v, b1, b2, b3, b4, b5⟩
        · have b1' : wu_am (fun v => wu_pr s z W m o dd v) (fun v => wu_of s (o (i + 1)) v && (fun v => wu_mf s (wu_F s (o i) + k) v) v) W = -1 := b1
          omega
        · have b4' : wu_am (fun v => wu_pr s z W m o dd v) (fun v => wu_of s (o (i + 1)) v && (fun v => wu_mf s (wu_F s (o i) + k) v) v) W = (v : Int) := b4
          have vv : v = wu_F s (o (i + 1)) + k' := by omega
          have b5' : wu_bs (fun v => wu_pr s z W m o dd v) (fun v => wu_of s (o (i + 1)) v && wu_mf s (wu_F s (o i) + k) v) W = wu_pr s z W m o dd (wu_F s (o (i + 1)) + k') := by rw [← vv]; exact b5
          rw [prS, b5', if_neg g3', ea, v5, v6]
          omega
  · have c' := wt_ncl c
    refine wt_H_bh (wh_priceC n hn R r h3 hkW) (fun q7 e7 => ?_)
    refine wt_H_some ⟨e7.1, ?_⟩
    show q7.1.toInt = _
    rw [e7.2, show m - 1 - i = 0 by omega]
    rfl
end WTQ2
-- 96za.least2.lean.txt
section WTQ3
/-! least: the call -/
/-- the class's rows of the rests -/
def wu_CR (s z σ : wt_St) (W m : Nat) (o : Nat → Nat) : Prop := ∀ i : Nat, i < m → ∀ k, k < wu_Z s (o i) → (wt_ga σ 82 (5 * i + k)).toInt = wu_pr s z W m o (m - 1 - i) (wu_F s (o i) + k)
set_option maxHeartbeats 2000000 in
theorem wr_findLeast (n : Nat) (hn : 4294967297 < n) {β : Type} {s z : wt_St} {t m W G : Nat} {o : Nat → Nat} {x1 : Int32} {p' : Option β} {Q : wt_St → β → Prop} (R : wu_RW s z t m W G o) (r : wt_RI z) (h1 : x1.toInt = (t : Int)) (go : ∀ (σ : wt_St) (ml : Int32), ml.toInt = (m : Int) → wt_fr (fun _ _ => False) (fun i => i = 82) s σ → wu_CR s z σ W m o → wt_HH (wt_it (wp_rw_findLeast_B98 n x1 ml) n ((-1 : Int32), (0 : Int32), wt_sf σ 81 9 (-1 : Int32))) p' Q) : wt_HH (wp_rw_findLeast n x1 s) p' Q := by
  have k0 : (0 : Int32).toInt = 0 := by decide
  have k1 : (1 : Int32).toInt = 1 := by decide
  have k5 : (5 : Int32).toInt = 5 := by decide
  have R' := R
  obtain ⟨⟨a1, a2, a3, a4, a5⟩, ⟨a6, -, -⟩, a8, -, gs, -⟩ := R'
  have RR : ∀ q, wt_fr (fun _ _ => False) (fun i => i = 82) s q → wu_RW q z t m W G o := fun q f => wu_RW_fr R f (wt_fr.rf (F := fun _ _ => False) (A := fun _ => False)) (fun i hi => by (try dsimp only); omega) (fun h => h) (fun _ _ h => h)
  have EE : ∀ q, wt_fr (fun _ _ => False) (fun i => i = 82) s q → (∀ w, wu_F q w = wu_F s w) ∧ (∀ w, wu_Z q w = wu_Z s w) ∧ (∀ w v, wu_of q w v = wu_of s w v) ∧ ∀ w v, wu_mf q w v = wu_mf s w v := fun q f => wu_FZ_eq (fun i hi => f.2 i (by (try dsimp only); omega))
  unfold wp_rw_findLeast
  refine wt_HH_l (wh_lengthOf n hn h1 a1 a6) (fun q1 e1 => ?_)
  rw [e1.1]
  have es := wt_subE (x := q1.1) (y := (1 : Int32)) (by omega) (by omega)
  refine wt_HH_itl (fun u : Int32 × wt_St => (-1 ≤ u.1.toInt ∧ u.1.toInt < (m : Int)) ∧ wt_fr (fun _ _ => False) (fun i => i = 82) s u.2 ∧ ∀ i : Nat, u.1.toInt < (i : Int) → i < m → ∀ k, k < wu_Z s (o i) → (wt_ga u.2 82 (5 * i + k)).toInt = wu_pr s z W m o (m - 1 - i) (wu_F s (o i) + k)) (fun K u I hK => ?_) n _ ⟨⟨by show -1 ≤ (q1.1 - (1 : Int32)).toInt; omega, by show (q1.1 - (1 : Int32)).toInt < _; omega⟩, wt_fr.rf, fun i h1 h2 => absurd (show (q1.1 - (1 : Int32)).toInt < (i : Int) from h1) (by omega)⟩
  obtain ⟨⟨i0, i1⟩, fu, i2⟩ := I
  unfold wp_rw_findLeast_B13
  refine wt_HH_il (fun c => ?_) (fun c => ?_)
  · have c' := wt_clt c
    exact go u.2 q1.1 e1.2 fu (fun i hi k hk => i2 i (by omega) hi k hk)
  · have c' := wt_ncl c
    obtain ⟨i, hi⟩ : ∃ i : Nat, i = Int32.toNatClampNeg u.1 := ⟨_, rfl⟩
    have ei := wt_tnI (x := u.1) (by omega)
    rw [← hi] at ei
    have hw := (a8 i (by omega)).1
    obtain ⟨-, -, ⟨z1, z2, z3⟩, -⟩ := wu_grp gs a5 a4 hw
    obtain ⟨um, eum⟩ : ∃ y : Int32, y = u.1 + (-1 : Int32) := ⟨_, rfl⟩
    have ed : um.toInt = u.1.toInt - 1 := by rw [eum]; exact wt_d1 (by omega)
    refine wt_HH_l (wh_wordAtR n hn (RR _ fu) h1 (i := i) ei.symm (by omega)) (fun q4 e4 => ?_)
    rw [e4.1]
    refine wt_HH_itl (fun p : Int32 × wt_St => (0 ≤ p.1.toInt ∧ p.1.toInt ≤ (wu_Z s (o i) : Int)) ∧ wt_fr (fun _ _ => False) (fun i => i = 82) s p.2 ∧ (∀ i' : Nat, i < i' → i' < m → ∀ k, k < wu_Z s (o i') → (wt_ga p.2 82 (5 * i' + k)).toInt = wu_pr s z W m o (m - 1 - i') (wu_F s (o i') + k)) ∧ ∀ k : Nat, (k : Int) < p.1.toInt → (wt_ga p.2 82 (5 * i + k)).toInt = wu_pr s z W m o (m - 1 - i) (wu_F s (o i) + k)) (fun K2 p J hK2 => ?_) n _ ⟨⟨by show 0 ≤ ((0 : Int32)).toInt; omega, by show ((0 : Int32)).toInt ≤ _; omega⟩, fu, fun i' h1 h2 => i2 i' (by omega) h2, fun k hk => absurd (show (k : Int) < ((0 : Int32)).toInt from hk) (by omega)⟩
    obtain ⟨⟨j0, j1⟩, fp, j2, j3⟩ := J
    obtain ⟨pF, pZ, -, pM⟩ := EE p.2 fp
    have ep := wt_tnI j0
    have gsp : wt_gs 20 W G p.2 := (RR _ fp).2.2.2.2.1
    unfold wp_rw_findLeast_B31
    refine wt_HH_l (wh_members n hn gsp a5 a4 hw e4.2) (fun q5 e5 => ?_)
    rw [e5.1]
    rw [pZ] at e5
    refine wt_HH_il (fun d => ?_) (fun d => ?_)
    · have d' := wt_cle d
      rw [← eum]
      refine hK _ ⟨⟨by show -1 ≤ um.toInt; omega, by show um.toInt < _; omega⟩, fp, fun i' h1 h2 k hk => ?_⟩
      have h1' : um.toInt < (i' : Int) := h1
      by_cases x : i' = i
      · rw [x] at hk ⊢
        exact j3 k (by omega)
      · exact j2 i' (by omega) h2 k hk
    · have d' := wt_ncle d
      have epi := wt_i1 (c := p.1) (by omega)
      refine wt_HH_l (wh_first n hn gsp a5 a4 hw e4.2) (fun q7 e7 => ?_)
      rw [e7.1]
      rw [pF] at e7
      have ea := wt_addE (x := q7.1) (y := p.1) (by omega) (by omega)
      refine wt_HH_l (wh_leastFrom n hn R (RR _ fp) r (EE _ fp) h1 (x2 := u.1) (x3 := q7.1 + p.1) (i := i) (k := Int32.toNatClampNeg p.1) ei.symm (by omega) (by omega) (by omega) (fun g k hk => j2 (i + 1) (by omega) g k hk)) (fun q8 e8 => ?_)
      rw [e8.1]
      have em := wt_mulR (x := u.1) k5 (by omega) (by omega)
      have ek := wt_addE (x := u.1 * (5 : Int32)) (y := p.1) (by omega) (by omega)
      refine wt_HH_l (wh_put n (k := 5 * i + Int32.toNatClampNeg p.1) (by omega) (by rw [show wt_ln 82 = 60 from by decide]; omega)) (fun q9 ε => ?_)
      refine hK2 _ ⟨⟨by show 0 ≤ (p.1 + (1 : Int32)).toInt; omega, by show (p.1 + (1 : Int32)).toInt ≤ _; omega⟩, fp.sa ε rfl, fun i' h1 h2 k hk => ?_, fun k hk => ?_⟩
      · obtain ⟨-, -, ⟨-, w2, -⟩, -⟩ := wu_grp gs a5 a4 (a8 i' h2).1
        rw [wt_w_sa ε _ (by omega)]
        exact j2 i' h1 h2 k hk
      · have hk' : (k : Int) < (p.1 + (1 : Int32)).toInt := hk
        show (wt_ga q9 82 (5 * i + k)).toInt = _
        by_cases x : k = Int32.toNatClampNeg p.1
        · rw [x, wt_v_sa ε]
          exact e8.2
        · rw [wt_w_sa ε _ (by omega)]
          exact j3 k (by omega)
set_option maxHeartbeats 4000000 in
theorem wr_leastRow (n : Nat) (hn : 4294967297 < n) {s z σ z1 : wt_St} {t m W G : Nat} {o : Nat → Nat} {x1 x2 x3 ml : Int32} (R : wu_RW s z t m W G o) (r : wt_RI z) (h1 : x1.toInt = (t : Int)) (hml : ml.toInt = (m : Int)) (fσ : wt_fr (fun _ _ => False) (fun i => i = 82) s σ) (cr : wu_CR s z σ W m o) (fz : wt_fr (fun _ _ => False) (fun i => 292 ≤ i ∧ i < 317) z z1) (lr : ∀ i, i < m → ∀ w, w < W → wu_LR s z z1 W m o i w) : wt_HH (wt_it (wp_rw_findLeast_B98 n x1 ml) n ((-1 : Int32), (0 : Int32), wt_sf σ 81 9 (-1 : Int32))) (wt_it (wp_md_least_B64 n x1 x2 x3) n ((-1 : Int32), (-1 : Int32), (0 : Int32), z1)) (fun S y => wt_H (wp_rw_found n x1 x2 x3 S) (fun q => q.1 = y.1 ∧ wt_gf y.2 108 0 = wt_gf z 108 0)) := by
  have k0 : (0 : Int32).toInt = 0 := by decide
  have k1 : (1 : Int32).toInt = 1 := by decide
  have et := wt_tnN h1
  have R' := R
  obtain ⟨⟨a1, a2, a3, a4, a5⟩, ⟨a6, b6, b7⟩, a8, -, gs, -⟩ := R'
  have RS : ∀ q, wt_fr (fun i k => i = 81 ∧ k = 9) (fun i => i = 82 ∨ i = 85) s q → wu_RW q z t m W G o := fun q f => wu_RW_fr R f (wt_fr.rf (F := fun _ _ => False) (A := fun _ => False)) (fun i hi => by (try dsimp only); omega) (fun h => h) (fun _ _ h => h)
  have RZ : ∀ q, wt_fr (fun _ _ => False) (fun i => 292 ≤ i ∧ i < 318) z q → wu_RW s q t m W G o := fun q f => wu_RW_fr R (wt_fr.rf (F := fun _ _ => False) (A := fun _ => False)) f (fun _ _ h => h) (fun h => h) (fun i hi => by (try dsimp only); omega)
  have EE : ∀ q, wt_fr (fun i k => i = 81 ∧ k = 9) (fun i => i = 82 ∨ i = 85) s q → (∀ w, wu_F q w = wu_F s w) ∧ (∀ w, wu_Z q w = wu_Z s w) ∧ (∀ w v, wu_of q w v = wu_of s w v) ∧ ∀ w v, wu_mf q w v = wu_mf s w v := fun q f => wu_FZ_eq (fun i hi => f.2 i (by (try dsimp only); omega))
  obtain ⟨σ1, εσ⟩ : ∃ q : wt_St, q = wt_sf σ 81 9 (-1 : Int32) := ⟨_, rfl⟩
  rw [← εσ]
  have gσ := wt_fr_sf εσ
  have F0 : wt_fr (fun i k => i = 81 ∧ k = 9) (fun i => i = 82 ∨ i = 85) s σ1 := wt_fr.tr (fσ.wk (F2 := fun i k => i = 81 ∧ k = 9) (A2 := fun i => i = 82 ∨ i = 85) (fun _ _ h => h.elim) (fun _ h => Or.inl h)) gσ (fun _ _ h => h) (fun _ h => h.elim)
  refine wt_HH_it (fun (u : Int32 × Int32 × wt_St) (v : Int32 × Int32 × Int32 × wt_St) => (u.1 = v.2.1 ∧ u.2.1 = v.2.2.1 ∧ wt_gf u.2.2 81 9 = v.1) ∧ (0 ≤ u.2.1.toInt ∧ u.2.1.toInt ≤ (m : Int)) ∧ wt_fr (fun i k => i = 81 ∧ k = 9) (fun i => i = 82 ∨ i = 85) s u.2.2 ∧ (∀ j, wt_ga u.2.2 82 j = wt_ga σ 82 j) ∧ wt_fr (fun _ _ => False) (fun i => 292 ≤ i ∧ i < 318) z v.2.2.2 ∧ (∀ a b, 292 ≤ a → a < 317 → wt_ga v.2.2.2 a b = wt_ga z1 a b) ∧ (∀ j : Nat, (j : Int) < u.2.1.toInt → wt_ga u.2.2 85 j = wt_ga v.2.2.2 317 j) ∧ ((u.2.1.toInt = 0 ∧ u.1 = -1 ∧ v.1 = -1) ∨ (0 < u.2.1.toInt ∧ v.1 ≠ -1 ∧ ∃ w, w < W ∧ u.1.toInt = (w : Int) ∧ wu_pr s z W m o (m - Int32.toNatClampNeg u.2.1) w ≠ -1))) (fun K98 K64 u v I hK => ?_) n n _ _ ⟨⟨rfl, rfl, by show wt_gf σ1 81 9 = -1; exact wt_v_sf εσ⟩, ⟨by show 0 ≤ ((0 : Int32)).toInt; omega, by show ((0 : Int32)).toInt ≤ _; omega⟩, F0, fun j => gσ.2 82 (fun h => h) j, fz.wk (fun _ _ h => h) (fun _ h => by omega), fun _ _ _ _ => rfl, fun j hj => absurd (show (j : Int) < ((0 : Int32)).toInt from hj) (by omega), Or.inl ⟨k0, rfl, rfl⟩⟩
  obtain ⟨⟨i1, i2, i3⟩, ⟨i4, i5⟩, fu, i82, fv, ilr, i85, ib⟩ := I
  obtain ⟨eF, eZ, eO, eM⟩ := EE u.2.2 fu
  have eu := wt_tnI i4
  obtain ⟨i, hi⟩ : ∃ i : Nat, i = Int32.toNatClampNeg u.2.1 := ⟨_, rfl⟩
  rw [← hi] at eu ib
  unfold wp_rw_findLeast_B98 wp_md_least_B64
  rw [et, fv.2 253 (by (try dsimp only); omega), ← i2]
  refine wt_HH_gr (fun _ => ?_)
  by_cases c : ml ≤ u.2.1
  · -- the row stands
    have c' := wt_cle c
    rw [if_pos c, if_pos (show wt_ga z 253 t ≤ u.2.1 from Int32.le_iff_toInt_le.mpr (by omega))]
    have np : ¬ v.1 = -1 := by
      rcases ib with ⟨q, -, -⟩ | ⟨-, q, -⟩
      · omega
      · exact q
    have T0 : wt_gf v.2.2.2 108 0 = wt_gf z 108 0 := fv.1 108 0 (fun h => h)
    unfold wp_rw_found wp_rw_found_B12
    by_cases d : x3 = 0
    · rw [if_pos d]
      refine wt_HH_some ?_
      rw [i3, if_neg np, if_pos d]
      exact wt_H_some ⟨rfl, T0⟩
    · rw [if_neg d]
      refine wt_HH_gr (fun _ => ?_)
      refine wt_HH_r (wh_in n) (fun q14 h14 => ?_)
      obtain ⟨e14, h14⟩ := h14
      rw [e14]
      have es := wt_subE (x := wt_ga z 253 t) (y := (1 : Int32)) (by omega) (by omega)
      rcases h14 with ⟨p1, p2⟩ | ⟨p1, p2, p3⟩
      · rw [if_pos (show q14.1 = 0 from p1)]
        refine wt_HH_some ?_
        rw [i3, if_neg np, if_neg d]
        refine wt_H_if (fun _ => wt_H_some ⟨rfl, T0⟩) (fun g => ?_)
        have g' := wt_ncl g
        refine wt_H_bh (wh_lengthOf n hn h1 a1 (RS _ fu).2.1.1) (fun q4 e4 => ?_)
        rw [if_pos (show q4.1 ≤ x2 from Int32.le_iff_toInt_le.mpr (by omega))]
        exact wt_H_some ⟨rfl, T0⟩
      · rw [if_neg (show ¬ q14.1 = 0 by rw [p1]; decide)]
        refine wt_HH_gr (fun _ => wt_HH_some ?_)
        rw [i3, if_neg np, if_neg d, if_neg (show ¬ x2 < 0 from fun h => by have := wt_clt h; omega)]
        refine wt_H_bh (wh_lengthOf n hn h1 a1 (RS _ fu).2.1.1) (fun q4 e4 => ?_)
        rw [if_neg (show ¬ q4.1 ≤ x2 from fun h => by have := wt_cle h; omega), e4.1]
        have ex := wt_tnI (x := x2) (by omega)
        refine wt_H_bh (wh_look n hn (k := Int32.toNatClampNeg x2) ex.symm (by rw [show wt_ln 85 = 12 from by decide]; omega)) (fun q6 e6 => ?_)
        subst e6
        exact wt_H_some ⟨i85 _ (by omega), T0⟩
  rw [if_neg c, if_neg (show ¬ wt_ga z 253 t ≤ u.2.1 from fun h => by have := wt_cle h; have := wt_ncle c; omega)]
  have c' := wt_ncle c
  have hw := (a8 i (by omega)).1
  obtain ⟨-, -, ⟨z1', z2', z3'⟩, z4'⟩ := wu_grp gs a5 a4 hw
  have ei := wt_i1 (c := u.2.1) (by omega)
  have ein : Int32.toNatClampNeg (u.2.1 + (1 : Int32)) = i + 1 := by have := wt_tnI (x := u.2.1 + (1 : Int32)) (by omega); omega
  have es := wt_subE (x := u.2.1) (y := (1 : Int32)) (by omega) (by omega)
  obtain ⟨dd, hdd⟩ : ∃ dd : Nat, dd = m - 1 - i := ⟨_, rfl⟩
  have emd : m - (i + 1) = dd := by omega
  -- who may stand here
  obtain ⟨P, hP⟩ : ∃ P : Nat → Bool, (∀ (x : Nat) (y : Int32), x < W → y.toInt = (x : Int) → wt_H (wp_rw_mayFollow n u.1 y u.2.2) (fun q => q.2 = u.2.2 ∧ ((q.1 = 1 ∧ P x = true) ∨ (q.1 = 0 ∧ P x = false)))) ∧ (∀ (x : Nat), x < W → (u.1 = -1 → P x = true) ∧ (¬ u.1 = -1 → ∀ y : Int32, y.toInt = (x : Int) → ∀ q : wt_St, wt_fr (fun _ _ => False) (fun i => 292 ≤ i ∧ i < 318) z q → wt_H (wp_md_mayFollow n u.1 y q) (fun b => b.2 = q ∧ ((b.1 = 1 ∧ P x = true) ∨ (b.1 = 0 ∧ P x = false))))) ∧ (0 < i → ∃ x, x < W ∧ (wu_of s (o i) x && P x) = true ∧ wu_pr s z W m o dd x ≠ -1) := by
    rcases ib with ⟨q1, q2, q3⟩ | ⟨q1, q2, w, q3, q4, q5⟩
    · refine ⟨fun _ => true, fun x y _ _ => by rw [q2]; exact wh_mayN n, fun x _ => ⟨fun _ => rfl, fun h => absurd q2 h⟩, fun h => by omega⟩
    · refine ⟨fun x => wu_mf s w x, fun x y hx hy => ?_, fun x hx => ⟨fun h => by rw [h, wt_lm1] at q4; omega, fun _ y hy q fq => ?_⟩, fun _ => ?_⟩
      · have := wh_mayC n hn (RS _ fu) q4 hy q3 hx
        rw [eM] at this
        exact this
      · exact wh_mayM n (RZ q fq) q4 hy q3 hx
      · have e : m - i = dd + 1 := by omega
        rw [e] at q5
        have e2 : m - 1 - dd = i := by omega
        have q5' : (if wu_bs (fun v => wu_pr s z W m o dd v) (fun v => wu_of s (o (m - 1 - dd)) v && wu_mf s w v) W = -1 then -1 else wu_bs (fun v => wu_pr s z W m o dd v) (fun v => wu_of s (o (m - 1 - dd)) v && wu_mf s w v) W + wu_pw z w) ≠ -1 := q5
        rw [e2] at q5'
        rcases wu_bs_sp (f := fun v => wu_pr s z W m o dd v) (P := fun v => wu_of s (o i) v && wu_mf s w v) W with ⟨b1, -⟩ | ⟨x, x1, x2, x3, -⟩
        · rw [if_pos b1] at q5'
          exact absurd rfl q5'
        · exact ⟨x, x1, x2, x3⟩
  obtain ⟨hPC, hPM, hPE⟩ := hP
  have CH := wh_cheapest n hn (RS _ fu) (x1 := x1) (x2 := u.2.1 - (1 : Int32)) (x3 := u.1) (i := i) (P := P) (y := fun x => wu_pr s z W m o dd x) h1 (by omega) (by omega) (fun k hk => by
    rw [eZ] at hk
    rw [eF, i82]
    refine ⟨by rw [hdd]; exact cr i (by omega) k hk, ?_⟩
    rcases (wu_pr_sp R r dd (by omega) (wu_F s (o i) + k) (by omega)).1 with q | q
    · exact Or.inl q
    · exact Or.inr ⟨q.1, by omega⟩) hPC
  rw [eF, eZ] at CH
  have grp := wu_am_grp gs a5 a4 hw P (fun x => wu_pr s z W m o dd x)
  refine wt_HH_l CH (fun q4 e4 => ?_)
  obtain ⟨e4, e5⟩ := e4
  rw [e4]
  have eun : Int32.toNatClampNeg u.2.1 = i := hi.symm
  -- the reference looks at all words
  refine wt_HH_itr (fun b : Int32 × Int32 × wt_St => (0 ≤ b.2.1.toInt ∧ b.2.1.toInt ≤ (W : Int)) ∧ b.2.2 = v.2.2.2 ∧ b.1.toInt = wu_am (fun x => wu_pr s z W m o dd x) (fun x => wu_of s (o i) x && P x) (Int32.toNatClampNeg b.2.1)) (fun K81 b J hK2 => ?_) n _ ⟨⟨by show 0 ≤ ((0 : Int32)).toInt; omega, by show ((0 : Int32)).toInt ≤ _; omega⟩, rfl, by show ((-1 : Int32)).toInt = wu_am _ _ (Int32.toNatClampNeg (0 : Int32)); rw [wt_tn0, wt_lm1]; rfl⟩
  obtain ⟨⟨j1, j2⟩, j3, j4⟩ := J
  have eb := wt_tnI j1
  unfold wp_md_least_B81
  rw [j3, fv.1 108 28 (fun h => h), ← i1, eun]
  refine wt_HH_ir (fun d => ?_) (fun d => ?_)
  · -- all seen
    have d' := wt_cle d
    have eW : Int32.toNatClampNeg b.2.1 = W := by omega
    rw [eW] at j4
    rcases e5 with ⟨f1, f2⟩ | ⟨k, f1, f2, f3⟩
    · have nb : b.1 = -1 := by
        rcases grp with ⟨g1, -⟩ | ⟨k2, -, -, -, g2, -⟩
        · exact wt_eqI (by rw [j4, wt_lm1]; exact g1)
        · have g2' : wu_am (fun k => wu_pr s z W m o dd (wu_F s (o i) + k)) (fun k => P (wu_F s (o i) + k)) (wu_Z s (o i)) = (k2 : Int) := g2
          omega
      rw [if_pos (show q4.1 = (-1 : Int32) from wt_eqI (by rw [f1, wt_lm1])), if_pos nb]
      refine wt_HH_some ?_
      rcases ib with ⟨q1, q2, q3⟩ | ⟨q1, -, -⟩
      · unfold wp_rw_found wp_rw_found_B12
        rw [i3, q3, if_pos rfl]
        exact wt_H_some ⟨rfl, fv.1 108 0 (fun h => h)⟩
      · exfalso
        obtain ⟨x, x1, x2, x3⟩ := hPE (by omega)
        rcases wu_am_sp (f := fun x => wu_pr s z W m o dd x) (P := fun x => wu_of s (o i) x && P x) W with ⟨-, g⟩ | ⟨y, -, -, -, g, -⟩
        · exact x3 (g x x1 x2)
        · rw [nb, wt_lm1, g] at j4
          omega
    · have nq : ¬ q4.1 = (-1 : Int32) := fun h => by rw [h, wt_lm1] at f2; omega
      rcases grp with ⟨-, g2⟩ | ⟨k2, g1, g2, g3, g4, g5⟩
      · have g2' : wu_am (fun k => wu_pr s z W m o dd (wu_F s (o i) + k)) (fun k => P (wu_F s (o i) + k)) (wu_Z s (o i)) = -1 := g2
        omega
      · have g4' : wu_am (fun k => wu_pr s z W m o dd (wu_F s (o i) + k)) (fun k => P (wu_F s (o i) + k)) (wu_Z s (o i)) = (k2 : Int) := g4
        have kk : k2 = k := by omega
        rw [kk] at g1 g2 g3 g5
        have g3' : wu_pr s z W m o dd (wu_F s (o i) + k) ≠ -1 := g3
        have same : q4.1 = b.1 := wt_eqI (by rw [f2, j4]; exact g5.symm)
        rw [if_neg nq, if_neg (show ¬ b.1 = (-1 : Int32) by rw [← same]; exact nq), ← same]
        have nqt := wt_tnN f2
        refine wt_HH_l (wh_put n (k := i) eu.symm (by rw [show wt_ln 85 = 12 from by decide]; omega)) (fun q6 ε6 => ?_)
        have F6 : wt_fr (fun i k => i = 81 ∧ k = 9) (fun i => i = 82 ∨ i = 85) s q6 := fu.sa ε6 (Or.inr rfl)
        have d6 := wt_fr_sa ε6
        unfold wp_rw_findLeast_B151 wp_md_least_B208
        rw [eun]
        -- both lay it down
        have NX : ∀ y : Int32, y ≠ -1 → wt_HH (K98 (q4.1, (u.2.1 + (1 : Int32)), wt_sf q6 81 9 y)) (if u.2.1 < 0 ∨ 12 ≤ i then none else K64 (y, q4.1, (u.2.1 + (1 : Int32)), wt_sa v.2.2.2 317 i q4.1)) (fun S y => wt_H (wp_rw_found n x1 x2 x3 S) (fun q => q.1 = y.1 ∧ wt_gf y.2 108 0 = wt_gf z 108 0)) := fun y hy => by
          refine wt_HH_gr (fun _ => ?_)
          obtain ⟨s7, ε7⟩ : ∃ q : wt_St, q = wt_sf q6 81 9 y := ⟨_, rfl⟩
          rw [← ε7]
          obtain ⟨z7, δ7⟩ : ∃ q : wt_St, q = wt_sa v.2.2.2 317 i q4.1 := ⟨_, rfl⟩
          rw [← δ7]
          have d7 := wt_fr_sf ε7
          have h7 := wt_fr_sa δ7
          refine hK _ _ ⟨⟨rfl, rfl, wt_v_sf ε7⟩, ⟨by show 0 ≤ (u.2.1 + (1 : Int32)).toInt; omega, by show (u.2.1 + (1 : Int32)).toInt ≤ _; omega⟩, F6.sf ε7 ⟨rfl, rfl⟩, fun j => (d7.2 82 (fun h => h) j).trans ((d6.2 82 (by decide) j).trans (i82 j)), fv.sa δ7 (by (try dsimp only); omega), fun a b' ha hb => (h7.2 a (by (try dsimp only); omega) b').trans (ilr a b' ha hb), fun j hj => ?_, Or.inr ⟨by show 0 < (u.2.1 + (1 : Int32)).toInt; omega, hy, wu_F s (o i) + k, by omega, f2, ?_⟩⟩
          · have hj' : (j : Int) < (u.2.1 + (1 : Int32)).toInt := hj
            show wt_ga s7 85 j = wt_ga z7 317 j
            rw [d7.2 85 (fun h => h)]
            by_cases x : j = i
            · rw [x, wt_v_sa ε6, wt_v_sa δ7]
            · rw [wt_w_sa ε6 j x, wt_w_sa δ7 j x]
              exact i85 j (by omega)
          · show wu_pr s z W m o (m - Int32.toNatClampNeg (u.2.1 + (1 : Int32))) (wu_F s (o i) + k) ≠ -1
            rw [ein, emd]
            exact g3'
        by_cases x : u.2.1 = 0
        · rw [if_pos x, if_pos x]
          have i0 : i = 0 := by rw [x, k0] at eu; omega
          refine wt_HH_l (wh_sumAt n hn (RS _ F6) h1 (x2 := (0 : Int32)) (x3 := q4.1) (i := 0) (k := k) (by rw [k0]; rfl) (by omega) (by rw [(EE _ F6).1, ← i0]; exact f2) (by rw [(EE _ F6).2.1, ← i0]; exact f1)) (fun q8 e8 => ?_)
          subst e8
          dsimp only
          have v8 : (wt_ga q6 82 (5 * 0 + k)).toInt = wu_pr s z W m o dd (wu_F s (o i) + k) := by
            rw [d6.2 82 (by decide), i82, hdd]
            have := cr i (by omega) k f1
            rw [i0] at this ⊢
            exact this
          have L := (lr i (by omega) (wu_F s (o i) + k) (by omega)).1
          rw [(z4' (wu_F s (o i) + k) (by omega)).mpr (by omega), if_pos rfl, ← hdd] at L
          have L2 : wt_ga v.2.2.2 (292 + i) (Int32.toNatClampNeg q4.1) = wt_ga q6 82 (5 * 0 + k) := wt_eqI (by rw [ilr _ _ (by omega) (by omega), nqt, L, v8])
          refine wt_HH_gr (fun _ => wt_HH_gr (fun _ => ?_))
          rw [L2]
          exact NX _ (fun h => by rw [h, wt_lm1] at v8; exact g3' v8.symm)
        · rw [if_neg x, if_neg x]
          have np : wt_gf q6 81 9 = v.1 := by rw [d6.1 81 9 (fun h => h)]; exact i3
          rw [np]
          refine NX _ ?_
          rcases ib with ⟨q, -, -⟩ | ⟨-, q, -⟩
          · exact absurd (wt_eqI (q.trans k0.symm)) x
          · exact q
  · have d' := wt_ncle d
    have ebi := wt_i1 (c := b.2.1) (by omega)
    obtain ⟨x, hx⟩ : ∃ x : Nat, x = Int32.toNatClampNeg b.2.1 := ⟨_, rfl⟩
    have ebn : Int32.toNatClampNeg (b.2.1 + (1 : Int32)) = x + 1 := by have := wt_tnI (x := b.2.1 + (1 : Int32)) (by omega); omega
    rw [← hx] at eb j4
    have hxW : x < W := by omega
    have amS : wu_am (fun x => wu_pr s z W m o dd x) (fun x => wu_of s (o i) x && P x) (x + 1) = if (wu_of s (o i) x && P x) = true ∧ wu_pr s z W m o dd x ≠ -1 ∧ (wu_am (fun x => wu_pr s z W m o dd x) (fun x => wu_of s (o i) x && P x) x = -1 ∨ wu_pr s z W m o dd x < wu_pr s z W m o dd (wu_am (fun x => wu_pr s z W m o dd x) (fun x => wu_of s (o i) x && P x) x).toNat) then (x : Int) else wu_am (fun x => wu_pr s z W m o dd x) (fun x => wu_of s (o i) x && P x) x := rfl
    unfold wp_md_least_B136 wp_md_least_B165 wp_md_least_B172 wp_md_least_B174
    obtain ⟨LHS, hL⟩ : ∃ p : Option wt_St, p = (if q4.1 = (-1 : Int32) then some u.2.2 else (wp_ap_put n 85 u.2.1 q4.1 u.2.2).bind fun q6 => if u.2.1 = 0 then (wp_rw_sumAt n x1 (0 : Int32) q4.1 q6).bind fun q8 => wp_rw_findLeast_B151 n x1 ml q4.1 u.2.1 K98 q8.1 q8.2 else wp_rw_findLeast_B151 n x1 ml q4.1 u.2.1 K98 (wt_gf q6 81 9) q6) := ⟨_, rfl⟩
    rw [← hL] at hK2 ⊢
    have KEEP : ¬ ((wu_of s (o i) x && P x) = true ∧ wu_pr s z W m o dd x ≠ -1 ∧ (wu_am (fun x => wu_pr s z W m o dd x) (fun x => wu_of s (o i) x && P x) x = -1 ∨ wu_pr s z W m o dd x < wu_pr s z W m o dd (wu_am (fun x => wu_pr s z W m o dd x) (fun x => wu_of s (o i) x && P x) x).toNat)) → wt_HH LHS (K81 (b.1, (b.2.1 + (1 : Int32)), v.2.2.2)) (fun S y => wt_H (wp_rw_found n x1 x2 x3 S) (fun q => q.1 = y.1 ∧ wt_gf y.2 108 0 = wt_gf z 108 0)) := fun h => by
      refine hK2 _ ⟨⟨by show 0 ≤ (b.2.1 + (1 : Int32)).toInt; omega, by show (b.2.1 + (1 : Int32)).toInt ≤ _; omega⟩, rfl, ?_⟩
      show b.1.toInt = wu_am _ _ (Int32.toNatClampNeg (b.2.1 + (1 : Int32)))
      rw [ebn, amS, if_neg h]
      exact j4
    have TAKE : ((wu_of s (o i) x && P x) = true ∧ wu_pr s z W m o dd x ≠ -1 ∧ (wu_am (fun x => wu_pr s z W m o dd x) (fun x => wu_of s (o i) x && P x) x = -1 ∨ wu_pr s z W m o dd x < wu_pr s z W m o dd (wu_am (fun x => wu_pr s z W m o dd x) (fun x => wu_of s (o i) x && P x) x).toNat)) → wt_HH LHS (K81 (b.2.1, (b.2.1 + (1 : Int32)), v.2.2.2)) (fun S y => wt_H (wp_rw_found n x1 x2 x3 S) (fun q => q.1 = y.1 ∧ wt_gf y.2 108 0 = wt_gf z 108 0)) := fun h => by
      refine hK2 _ ⟨⟨by show 0 ≤ (b.2.1 + (1 : Int32)).toInt; omega, by show (b.2.1 + (1 : Int32)).toInt ≤ _; omega⟩, rfl, ?_⟩
      show b.2.1.toInt = wu_am _ _ (Int32.toNatClampNeg (b.2.1 + (1 : Int32)))
      rw [ebn, amS, if_pos h]
      exact eb.symm
    refine wt_HH_r (wh_isOfM n (RZ _ fv) (x := b.2.1) (v := x) (y2 := u.2.1) (i := i) eb.symm hxW h1 eu.symm (by omega)) (fun q23 h23 => ?_)
    obtain ⟨h23, g23⟩ := h23
    rw [h23]
    rcases g23 with ⟨b1, b2⟩ | ⟨b1, b2⟩
    rotate_left
    · rw [if_pos (show q23.1 = 0 from b1)]
      exact KEEP (fun h => by rw [b2, Bool.false_and] at h; exact absurd h.1 (by decide))
    rw [if_neg (show ¬ q23.1 = 0 by rw [b1]; decide)]
    have L := (lr i (by omega) x hxW).1
    rw [b2, if_pos rfl, ← hdd, ← ilr _ _ (by omega) (by omega)] at L
    rw [eun, ← hx]
    refine wt_HH_gr (fun _ => wt_HH_gr (fun _ => wt_HH_ir (fun y => ?_) (fun y => ?_)))
    · exact KEEP (fun h => h.2.1 (by rw [← L, y, wt_lm1]))
    have y' : wu_pr s z W m o dd x ≠ -1 := fun h => y (wt_eqI (by rw [L, h, wt_lm1]))
    -- behind who may follow
    have TAIL : P x = true → wt_HH LHS (if b.1 = (-1 : Int32) then K81 (b.2.1, (b.2.1 + (1 : Int32)), v.2.2.2) else if u.2.1 < 0 ∨ 12 ≤ i then none else if b.2.1 < 0 ∨ 60 ≤ x then none else if u.2.1 < 0 ∨ 12 ≤ i then none else if b.1 < 0 ∨ 60 ≤ Int32.toNatClampNeg b.1 then none else if (wt_ga v.2.2.2 (292 + i) (Int32.toNatClampNeg b.1)) ≤ (wt_ga v.2.2.2 (292 + i) x) then K81 (b.1, (b.2.1 + (1 : Int32)), v.2.2.2) else K81 (b.2.1, (b.2.1 + (1 : Int32)), v.2.2.2)) (fun S y => wt_H (wp_rw_found n x1 x2 x3 S) (fun q => q.1 = y.1 ∧ wt_gf y.2 108 0 = wt_gf z 108 0)) := fun px => by
      have Px : (wu_of s (o i) x && P x) = true := by rw [b2, px]; rfl
      rcases wu_am_sp (f := fun x => wu_pr s z W m o dd x) (P := fun x => wu_of s (o i) x && P x) x with ⟨am, -⟩ | ⟨a, a1', a2', a3', a4', -⟩
      · rw [if_pos (show b.1 = (-1 : Int32) from wt_eqI (by rw [j4, am, wt_lm1]))]
        exact TAKE ⟨Px, y', Or.inl am⟩
      · have ja : b.1.toInt = (a : Int) := by rw [j4]; exact a4'
        rw [if_neg (show ¬ b.1 = (-1 : Int32) from fun h => by rw [h, wt_lm1] at ja; omega), wt_tnN ja]
        refine wt_HH_gr (fun _ => wt_HH_gr (fun _ => wt_HH_gr (fun _ => wt_HH_gr (fun _ => ?_))))
        have La := (lr i (by omega) a (by omega)).1
        have a2'' : (wu_of s (o i) a && P a) = true := a2'
        rw [Bool.and_eq_true] at a2''
        rw [a2''.1, if_pos rfl, ← hdd, ← ilr _ _ (by omega) (by omega)] at La
        refine wt_HH_ir (fun q => ?_) (fun q => ?_)
        · have q' := wt_cle q
          refine KEEP (fun h => ?_)
          rcases h.2.2 with e | e
          · omega
          · rw [a4'] at e
            have e' : wu_pr s z W m o dd x < wu_pr s z W m o dd a := e
            omega
        · have q' := wt_ncle q
          refine TAKE ⟨Px, y', Or.inr ?_⟩
          rw [a4']
          show wu_pr s z W m o dd x < wu_pr s z W m o dd a
          omega
    refine wt_HH_ir (fun q => ?_) (fun q => ?_)
    · exact TAIL ((hPM x hxW).1 q)
    · refine wt_HH_r ((hPM x hxW).2 q b.2.1 eb.symm v.2.2.2 fv) (fun q35 h35 => ?_)
      obtain ⟨h35, g35⟩ := h35
      rw [h35]
      rcases g35 with ⟨p1, p2⟩ | ⟨p1, p2⟩
      · rw [if_neg (show ¬ q35.1 = 0 by rw [p1]; decide)]
        exact TAIL p2
      · rw [if_pos (show q35.1 = 0 from p1)]
        exact KEEP (fun h => by rw [p2, Bool.and_false] at h; exact absurd h.1 (by decide))
theorem wr_least (n : Nat) (hn : 4294967297 < n) {x1 x2 x3 : Int32} {s z : wt_St} (v : wt_IV z) (rl : wu_RL s z) : wt_HH (wp_ap_least n x1 x2 x3 s) (wp_md_least n x1 x2 x3 z) (fun q y => (q.1 = 2 ∧ wt_gf y.2 108 0 = 1) ∨ (q.1 = 1 ∧ wt_gf y.2 108 0 = 2) ∨ (q.1 = 0 ∧ wt_gf y.2 108 0 = 0 ∧ q.2.1 = y.1)) := by
  unfold wp_ap_least wp_md_least
  obtain ⟨z0, ε0⟩ : ∃ o : wt_St, o = wt_sf z 108 0 (0 : Int32) := ⟨_, rfl⟩
  rw [← ε0]
  have g0 := wt_fr_sf ε0
  have t0 : wt_gf z0 108 0 = 0 := wt_v_sf ε0
  have r0 : wt_RI z0 := wt_RI_fno v.1 ε0 (Or.inr (by decide +kernel))
  obtain ⟨-, -, to, lc, tx, sc, -⟩ := wu_RL_z0 rl v.1 g0
  have hz : 0 ≤ (wt_gf z0 108 39).toInt ∧ (wt_gf z0 108 39).toInt ≤ 8 := wt_Rf7 r0
  refine wr_gT n (wp_ap_least_B16 n x1 x2 x3) (wp_md_least_B19 n x1 x2 x3) tx.1 hz (wr_mb1 n t0 (by decide) (Or.inl ⟨rfl, wt_v_sf rfl⟩)) (fun hx0 hx1 => wr_mb0 n t0 ?_)
  dsimp only
  have et := wt_tnI hx0
  obtain ⟨m, W, G, o, R⟩ := wu_RW_of to lc tx r0 (t := Int32.toNatClampNeg x1) (by omega)
  unfold wp_ap_least_B28 wp_ap_least_B33 wp_md_least_B41
  refine wr_gI n t0 (by decide) (Or.inr (Or.inl ⟨rfl, wt_v_sf rfl⟩)) (fun _ _ => ?_)
  refine wt_HH_lf ?_
  refine wt_HH_r (wh_laysRests n hn R r0 et.symm) (fun q9 h9 => ?_)
  refine wr_findLeast n hn R r0 et.symm (fun σ ml hml fσ cr => ?_)
  refine (wr_leastRow n hn (x2 := x2) (x3 := x3) R r0 et.symm hml fσ cr h9.1 h9.2).imp (fun S y h => ?_)
  exact wt_H_bh h (fun q hq => wt_H_some (Or.inr (Or.inr ⟨rfl, hq.2.trans t0, hq.1⟩)))
end WTQ3
