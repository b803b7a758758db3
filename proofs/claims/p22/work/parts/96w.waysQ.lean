-- 96w.ways.lean.txt
section WTQ0
/-! how many wordings there are: from the last place on -/
theorem wu_FZ_eq {s s' : wt_St} (e : ∀ i, i < 40 → ∀ j, wt_ga s' i j = wt_ga s i j) : (∀ w, wu_F s' w = wu_F s w) ∧ (∀ w, wu_Z s' w = wu_Z s w) ∧ (∀ w v, wu_of s' w v = wu_of s w v) ∧ ∀ w v, wu_mf s' w v = wu_mf s w v := by
  refine ⟨fun w => ?_, fun w => ?_, fun w v => ?_, fun w v => ?_⟩
  · unfold wu_F
    rw [e 24 (by omega), e 25 (by omega)]
  · unfold wu_Z
    rw [e 24 (by omega), e 26 (by omega)]
  · unfold wu_of
    rw [e 24 (by omega), e 24 (by omega)]
  · unfold wu_mf
    rw [e 23 (by omega), e 23 (by omega), e 11 (by omega)]
def wu_wy (s : wt_St) (W m : Nat) (o : Nat → Nat) : Nat → Nat → Int
  | 0, _ => 1
  | d + 1, w => wt_sum (fun v => if (wu_of s (o (m - 1 - d)) v && wu_mf s w v) = true then wu_wy s W m o d v else 0) W
def wu_p5 : Nat → Int
  | 0 => 1
  | d + 1 => 5 * wu_p5 d
theorem wu_p5_bd : ∀ d, d < 12 → 1 ≤ wu_p5 d ∧ wu_p5 d ≤ 48828125 := by decide +kernel
theorem wu_seg {s : wt_St} {W G w : Nat} (gs : wt_gs 20 W G s) (hG : G ≤ 20) (hW : W ≤ 60) (hw : w < W) (P : Nat → Bool) (f : Nat → Int) : wt_sum (fun v => if (wu_of s w v && P v) = true then f v else 0) W = wt_sum (fun k => if P (wu_F s w + k) = true then f (wu_F s w + k) else 0) (wu_Z s w) := by
  obtain ⟨-, -, ⟨z1, z2, z3⟩, z4⟩ := wu_grp gs hG hW hw
  rw [wu_sum_seg (F := wu_F s w) (S := wu_Z s w) z3 (fun v hv => ?_) (fun v h1 h2 => ?_)]
  · refine wt_sum_congr _ (fun k hk => ?_)
    show (if (wu_of s w (wu_F s w + k) && P (wu_F s w + k)) = true then f (wu_F s w + k) else 0) = if P (wu_F s w + k) = true then f (wu_F s w + k) else 0
    rw [(z4 (wu_F s w + k) (by omega)).mpr (by omega), Bool.true_and]
  · show (if (wu_of s w v && P v) = true then f v else 0) = 0
    have : wu_of s w v = false := by
      cases h : wu_of s w v
      · rfl
      · have := (z4 v (by omega)).mp h
        omega
    rw [this, Bool.false_and, if_neg (by decide)]
  · show (if (wu_of s w v && P v) = true then f v else 0) = 0
    have : wu_of s w v = false := by
      cases h : wu_of s w v
      · rfl
      · have := (z4 v h2).mp h
        omega
    rw [this, Bool.false_and, if_neg (by decide)]
theorem wu_wy_bd {s z : wt_St} {t m W G : Nat} {o : Nat → Nat} (R : wu_RW s z t m W G o) : ∀ d, d < m → ∀ w, 0 ≤ wu_wy s W m o d w ∧ wu_wy s W m o d w ≤ wu_p5 d := by
  obtain ⟨⟨-, h2, h3, h4, h5⟩, -, h8, -, gs, -⟩ := R
  intro d
  induction d with
  | zero => exact fun _ w => ⟨by show (0 : Int) ≤ 1; omega, Int.le_refl _⟩
  | succ d ih =>
    intro hd w
    have hw := (h8 (m - 1 - d) (by omega)).1
    obtain ⟨-, -, ⟨z1, z2, z3⟩, -⟩ := wu_grp gs h5 h4 hw
    have e : wu_wy s W m o (d + 1) w = wt_sum (fun k => if wu_mf s w (wu_F s (o (m - 1 - d)) + k) = true then wu_wy s W m o d (wu_F s (o (m - 1 - d)) + k) else 0) (wu_Z s (o (m - 1 - d))) := wu_seg gs h5 h4 hw (fun v => wu_mf s w v) (fun v => wu_wy s W m o d v)
    have p := wu_p5_bd d (by omega)
    have b := wt_sum_bd (f := fun k => if wu_mf s w (wu_F s (o (m - 1 - d)) + k) = true then wu_wy s W m o d (wu_F s (o (m - 1 - d)) + k) else 0) (c := wu_p5 d) (wu_Z s (o (m - 1 - d))) (fun k _ => by
      have i := ih (by omega) (wu_F s (o (m - 1 - d)) + k)
      show 0 ≤ (if wu_mf s w (wu_F s (o (m - 1 - d)) + k) = true then wu_wy s W m o d (wu_F s (o (m - 1 - d)) + k) else 0) ∧ (if wu_mf s w (wu_F s (o (m - 1 - d)) + k) = true then wu_wy s W m o d (wu_F s (o (m - 1 - d)) + k) else 0) ≤ wu_p5 d
      split <;> omega)
    have mm : wu_p5 d * (wu_Z s (o (m - 1 - d)) : Int) ≤ wu_p5 d * 5 := Int.mul_le_mul_of_nonneg_left (by omega) (by omega)
    have pe : wu_p5 (d + 1) = 5 * wu_p5 d := rfl
    rw [e]
    omega
theorem wh_sumAt (n : Nat) (hn : 4294967297 < n) {s z : wt_St} {t m W G i k : Nat} {o : Nat → Nat} {x1 x2 x3 : Int32} (R : wu_RW s z t m W G o) (h1 : x1.toInt = (t : Int)) (h2 : x2.toInt = (i : Int)) (hi : i < m) (h3 : x3.toInt = ((wu_F s (o i) + k : Nat) : Int)) (hk : k < wu_Z s (o i)) : wt_H (wp_rw_sumAt n x1 x2 x3 s) (fun q => q = (wt_ga s 82 (5 * i + k), s)) := by
  have k5 : (5 : Int32).toInt = 5 := by decide
  have R' := R
  obtain ⟨⟨-, -, a3, a4, a5⟩, -, a8, -, gs, -⟩ := R'
  have hw := (a8 i hi).1
  obtain ⟨-, -, ⟨z1, z2, z3⟩, -⟩ := wu_grp gs a5 a4 hw
  unfold wp_rw_sumAt
  refine wt_H_bh (wh_wordAtR n hn R h1 h2 hi) (fun q1 e1 => ?_)
  rw [e1.1]
  refine wt_H_bh (wh_first n hn gs a5 a4 hw e1.2) (fun q2 e2 => ?_)
  rw [e2.1]
  have em := wt_mulR (x := x2) k5 (by omega) (by omega)
  have ea := wt_addE (x := x2 * (5 : Int32)) (y := x3) (by omega) (by omega)
  have es := wt_subE (x := x2 * (5 : Int32) + x3) (y := q2.1) (by omega) (by omega)
  refine wt_H_bh (wh_look n hn (k := 5 * i + k) (by omega) (by rw [show wt_ln 82 = 60 from by decide]; omega)) (fun q3 e3 => ?_)
  subst e3
  exact wt_H_some rfl
set_option maxHeartbeats 1000000 in
theorem wh_waysBehind (n : Nat) (hn : 4294967297 < n) {s z : wt_St} {t m W G i : Nat} {o : Nat → Nat} {x1 x2 x3 : Int32} {P : Nat → Bool} {y : Nat → Int} (R : wu_RW s z t m W G o) (h1 : x1.toInt = (t : Int)) (h2 : x2.toInt = (i : Int) - 1) (hi : i < m) (hy : ∀ k, k < wu_Z s (o i) → (wt_ga s 82 (5 * i + k)).toInt = y (wu_F s (o i) + k) ∧ 0 ≤ y (wu_F s (o i) + k) ∧ y (wu_F s (o i) + k) ≤ 48828125) (mf : ∀ (v : Nat) (u : Int32), v < W → u.toInt = (v : Int) → wt_H (wp_rw_mayFollow n x3 u s) (fun q => q.2 = s ∧ ((q.1 = 1 ∧ P v = true) ∨ (q.1 = 0 ∧ P v = false)))) : wt_H (wp_rw_waysBehind n x1 x2 x3 s) (fun q => q.2 = s ∧ q.1.toInt = wt_sum (fun k => if P (wu_F s (o i) + k) = true then y (wu_F s (o i) + k) else 0) (wu_Z s (o i))) := by
  have k0 : (0 : Int32).toInt = 0 := by decide
  have R' := R
  obtain ⟨⟨a1, -, a3, a4, a5⟩, ⟨a6, -, -⟩, a8, -, gs, -⟩ := R'
  have hw := (a8 i hi).1
  obtain ⟨-, -, ⟨z1, z2, z3⟩, -⟩ := wu_grp gs a5 a4 hw
  have e2 := wt_i1 (c := x2) (by omega)
  unfold wp_rw_waysBehind
  refine wt_H_bh (wh_lengthOf n hn h1 a1 a6) (fun q1 e1 => ?_)
  rw [if_pos (show (x2 + (1 : Int32)) < q1.1 from Int32.lt_iff_toInt_lt.mpr (by omega)), e1.1]
  refine wt_H_bh (wh_wordAtR n hn R h1 (i := i) (by omega) hi) (fun q3 e3 => ?_)
  rw [e3.1]
  refine wt_H_it (fun u : Int32 × Int32 × wt_St => u.2.2 = s ∧ (0 ≤ u.2.1.toInt ∧ u.2.1.toInt ≤ (wu_Z s (o i) : Int)) ∧ u.1.toInt = wt_sum (fun k => if P (wu_F s (o i) + k) = true then y (wu_F s (o i) + k) else 0) (Int32.toNatClampNeg u.2.1)) (fun K u I hK => ?_) n _ ⟨rfl, ⟨by show 0 ≤ ((0 : Int32)).toInt; omega, by show ((0 : Int32)).toInt ≤ _; omega⟩, by show ((0 : Int32)).toInt = wt_sum _ (Int32.toNatClampNeg (0 : Int32)); rw [wt_tn0, k0]; rfl⟩
  obtain ⟨i0, ⟨i1, i2⟩, i3⟩ := I
  have eu := wt_tnI i1
  unfold wp_rw_waysBehind_B38
  rw [i0]
  refine wt_H_bh (wh_members n hn gs a5 a4 hw e3.2) (fun q4 e4 => ?_)
  rw [e4.1]
  refine wt_H_if (fun c => ?_) (fun c => ?_)
  · have c' := wt_cle c
    refine wt_H_some ⟨rfl, ?_⟩
    show u.1.toInt = _
    rw [i3, show Int32.toNatClampNeg u.2.1 = wu_Z s (o i) by omega]
  · have c' := wt_ncle c
    have ei := wt_i1 (c := u.2.1) (by omega)
    have en : Int32.toNatClampNeg (u.2.1 + (1 : Int32)) = Int32.toNatClampNeg u.2.1 + 1 := by have := wt_tnI (x := u.2.1 + (1 : Int32)) (by omega); omega
    obtain ⟨y1, y2, y3⟩ := hy (Int32.toNatClampNeg u.2.1) (by omega)
    have sb := wt_sum_bd (f := fun k => if P (wu_F s (o i) + k) = true then y (wu_F s (o i) + k) else 0) (c := 48828125) (Int32.toNatClampNeg u.2.1) (fun k hk => by
      obtain ⟨-, p1, p2⟩ := hy k (by omega)
      show 0 ≤ (if P (wu_F s (o i) + k) = true then y (wu_F s (o i) + k) else 0) ∧ (if P (wu_F s (o i) + k) = true then y (wu_F s (o i) + k) else 0) ≤ 48828125
      split <;> omega)
    have sb' : 0 ≤ u.1.toInt ∧ u.1.toInt ≤ 48828125 * (Int32.toNatClampNeg u.2.1 : Int) := by rw [i3]; exact sb
    have N : ∀ w : Int32, w.toInt = (if P (wu_F s (o i) + Int32.toNatClampNeg u.2.1) = true then y (wu_F s (o i) + Int32.toNatClampNeg u.2.1) else 0) → wt_H (wp_rw_waysBehind_B91 n x1 x3 (x2 + (1 : Int32)) q3.1 u.2.1 K u.1 w s) (fun q => q.2 = s ∧ q.1.toInt = wt_sum (fun k => if P (wu_F s (o i) + k) = true then y (wu_F s (o i) + k) else 0) (wu_Z s (o i))) := fun w hw' => by
      have wb : 0 ≤ w.toInt ∧ w.toInt ≤ 48828125 := by
        rw [hw']
        split <;> omega
      have ea := wt_addE (x := u.1) (y := w) (by omega) (by omega)
      unfold wp_rw_waysBehind_B91
      refine hK _ ⟨rfl, ⟨by show 0 ≤ (u.2.1 + (1 : Int32)).toInt; omega, by show (u.2.1 + (1 : Int32)).toInt ≤ _; omega⟩, ?_⟩
      show (u.1 + w).toInt = wt_sum _ (Int32.toNatClampNeg (u.2.1 + (1 : Int32)))
      rw [en, ea, i3, hw']
      rfl
    refine wt_H_bh (wh_first n hn gs a5 a4 hw e3.2) (fun q6 e6 => ?_)
    rw [e6.1]
    have ea := wt_addE (x := q6.1) (y := u.2.1) (by omega) (by omega)
    refine wt_H_bh (mf (wu_F s (o i) + Int32.toNatClampNeg u.2.1) (q6.1 + u.2.1) (by omega) (by omega)) (fun q7 e7 => ?_)
    obtain ⟨e7, e8⟩ := e7
    rw [e7]
    rcases e8 with ⟨p1, p2⟩ | ⟨p1, p2⟩
    · rw [if_neg (show ¬ q7.1 = 0 by rw [p1]; decide)]
      refine wt_H_bh (wh_sumAt n hn R h1 (i := i) (k := Int32.toNatClampNeg u.2.1) (by omega) hi (by omega) (by omega)) (fun q9 e9 => ?_)
      subst e9
      refine N _ ?_
      rw [p2, if_pos rfl]
      exact y1
    · rw [if_pos (show q7.1 = 0 from p1)]
      refine N _ ?_
      rw [p2, if_neg (by decide)]
      exact k0
theorem wh_mayN (n : Nat) {u : Int32} {s : wt_St} : wt_H (wp_rw_mayFollow n (-1 : Int32) u s) (fun q => q.2 = s ∧ ((q.1 = 1 ∧ true = true) ∨ (q.1 = 0 ∧ true = false))) := by
  unfold wp_rw_mayFollow
  rw [if_pos rfl]
  exact wt_H_some ⟨rfl, Or.inl ⟨rfl, rfl⟩⟩
set_option maxHeartbeats 2000000 in
theorem wh_howMany (n : Nat) (hn : 4294967297 < n) {s z : wt_St} {t m W G : Nat} {o : Nat → Nat} {x1 : Int32} (R : wu_RW s z t m W G o) (h1 : x1.toInt = (t : Int)) : wt_H (wp_rw_howMany n x1 s) (fun q => q.1.toInt = wt_sum (fun k => wu_wy s W m o (m - 1) (wu_F s (o 0) + k)) (wu_Z s (o 0)) ∧ 0 ≤ q.1.toInt) := by
  have k0 : (0 : Int32).toInt = 0 := by decide
  have k5 : (5 : Int32).toInt = 5 := by decide
  have R' := R
  obtain ⟨⟨a1, a2, a3, a4, a5⟩, ⟨a6, -, -⟩, a8, -, gs, -⟩ := R'
  have RR : ∀ q, wt_fr (fun _ _ => False) (fun i => i = 82) s q → wu_RW q z t m W G o := fun q f => wu_RW_fr R f (wt_fr.rf (F := fun _ _ => False) (A := fun _ => False)) (fun i hi => by (try dsimp only); omega) (fun h => h) (fun _ _ h => h)
  have EE : ∀ q, wt_fr (fun _ _ => False) (fun i => i = 82) s q → (∀ w, wu_F q w = wu_F s w) ∧ (∀ w, wu_Z q w = wu_Z s w) ∧ (∀ w v, wu_of q w v = wu_of s w v) ∧ ∀ w v, wu_mf q w v = wu_mf s w v := fun q f => wu_FZ_eq (fun i hi => f.2 i (by (try dsimp only); omega))
  unfold wp_rw_howMany
  refine wt_H_bh (wh_lengthOf n hn h1 a1 a6) (fun q1 e1 => ?_)
  rw [e1.1]
  have es := wt_subE (x := q1.1) (y := (1 : Int32)) (by rw [show (1 : Int32).toInt = 1 from by decide]; omega) (by rw [show (1 : Int32).toInt = 1 from by decide]; omega)
  rw [show (1 : Int32).toInt = 1 from by decide] at es
  refine wt_H_it (fun u : Int32 × wt_St => (-1 ≤ u.1.toInt ∧ u.1.toInt < (m : Int)) ∧ wt_fr (fun _ _ => False) (fun i => i = 82) s u.2 ∧ ∀ i : Nat, u.1.toInt < (i : Int) → i < m → ∀ k, k < wu_Z s (o i) → (wt_ga u.2 82 (5 * i + k)).toInt = wu_wy s W m o (m - 1 - i) (wu_F s (o i) + k)) (fun K u I hK => ?_) n _ ⟨⟨by show -1 ≤ (q1.1 - (1 : Int32)).toInt; omega, by show (q1.1 - (1 : Int32)).toInt < _; omega⟩, wt_fr.rf, fun i h1 h2 => absurd (show (q1.1 - (1 : Int32)).toInt < (i : Int) from h1) (by omega)⟩
  obtain ⟨⟨i0, i1⟩, fu, i2⟩ := I
  obtain ⟨eF, eZ, -, eM⟩ := EE u.2 fu
  unfold wp_rw_howMany_B11
  refine wt_H_if (fun c => ?_) (fun c => ?_)
  · have c' := wt_clt c
    have hw := (a8 0 (by omega)).1
    obtain ⟨-, -, ⟨z1, z2, z3⟩, -⟩ := wu_grp gs a5 a4 hw
    refine wt_H_bh (wh_waysBehind n hn (RR _ fu) h1 (i := 0) (P := fun _ => true) (y := fun v => wu_wy s W m o (m - 1) v) (by rw [wt_lm1]; rfl) (by omega) (fun k hk => ?_) (fun v w _ _ => wh_mayN n)) (fun q3 e3 => ?_)
    · rw [eZ] at hk
      have b := wu_wy_bd R (m - 1) (by omega) (wu_F s (o 0) + k)
      have p := wu_p5_bd (m - 1) (by omega)
      rw [eF]
      exact ⟨i2 0 (by omega) (by omega) k hk, b.1, by omega⟩
    · refine wt_H_some ?_
      obtain ⟨-, e3⟩ := e3
      rw [eF, eZ] at e3
      have e4 : wt_sum (fun k => if true = true then wu_wy s W m o (m - 1) (wu_F s (o 0) + k) else 0) (wu_Z s (o 0)) = wt_sum (fun k => wu_wy s W m o (m - 1) (wu_F s (o 0) + k)) (wu_Z s (o 0)) := wt_sum_congr _ (fun k _ => if_pos rfl)
      have nn := wt_sum_bd (f := fun k => wu_wy s W m o (m - 1) (wu_F s (o 0) + k)) (c := wu_p5 (m - 1)) (wu_Z s (o 0)) (fun k _ => wu_wy_bd R (m - 1) (by omega) _)
      show q3.1.toInt = _ ∧ 0 ≤ q3.1.toInt
      rw [e3, e4]
      exact ⟨rfl, nn.1⟩
  · have c' := wt_ncl c
    obtain ⟨i, hi⟩ : ∃ i : Nat, i = Int32.toNatClampNeg u.1 := ⟨_, rfl⟩
    have ei := wt_tnI (x := u.1) (by omega)
    rw [← hi] at ei
    have hw := (a8 i (by omega)).1
    obtain ⟨-, -, ⟨z1, z2, z3⟩, -⟩ := wu_grp gs a5 a4 hw
    obtain ⟨um, eum⟩ : ∃ y : Int32, y = u.1 + (-1 : Int32) := ⟨_, rfl⟩
    have ed : um.toInt = u.1.toInt - 1 := by rw [eum]; exact wt_d1 (by omega)
    refine wt_H_bh (wh_wordAtR n hn (RR _ fu) h1 (i := i) ei.symm (by omega)) (fun q4 e4 => ?_)
    rw [e4.1]
    refine wt_H_it (fun p : Int32 × wt_St => (0 ≤ p.1.toInt ∧ p.1.toInt ≤ (wu_Z s (o i) : Int)) ∧ wt_fr (fun _ _ => False) (fun i => i = 82) s p.2 ∧ (∀ i' : Nat, i < i' → i' < m → ∀ k, k < wu_Z s (o i') → (wt_ga p.2 82 (5 * i' + k)).toInt = wu_wy s W m o (m - 1 - i') (wu_F s (o i') + k)) ∧ ∀ k : Nat, (k : Int) < p.1.toInt → (wt_ga p.2 82 (5 * i + k)).toInt = wu_wy s W m o (m - 1 - i) (wu_F s (o i) + k)) (fun K2 p J hK2 => ?_) n _ ⟨⟨by show 0 ≤ ((0 : Int32)).toInt; omega, by show ((0 : Int32)).toInt ≤ _; omega⟩, fu, fun i' h1 h2 => i2 i' (by omega) h2, fun k hk => absurd (show (k : Int) < ((0 : Int32)).toInt from hk) (by omega)⟩
    obtain ⟨⟨j0, j1⟩, fp, j2, j3⟩ := J
    obtain ⟨pF, pZ, -, pM⟩ := EE p.2 fp
    have ep := wt_tnI j0
    have gsp : wt_gs 20 W G p.2 := (RR _ fp).2.2.2.2.1
    unfold wp_rw_howMany_B28
    refine wt_H_bh (wh_members n hn gsp a5 a4 hw e4.2) (fun q5 e5 => ?_)
    rw [e5.1]
    rw [pZ] at e5
    refine wt_H_if (fun d => ?_) (fun d => ?_)
    · have d' := wt_cle d
      rw [← eum]
      refine hK _ ⟨⟨by show -1 ≤ um.toInt; omega, by show um.toInt < _; omega⟩, fp, fun i' h1 h2 k hk => ?_⟩
      have h1' : um.toInt < (i' : Int) := h1
      by_cases x : i' = i
      · rw [x] at hk ⊢
        exact j3 k (by omega)
      · exact j2 i' (by omega) h2 k hk
    · have d' := wt_ncle d
      have epi := wt_i1 (c := p.1) (by omega)
      refine wt_H_bh (wh_first n hn gsp a5 a4 hw e4.2) (fun q7 e7 => ?_)
      rw [e7.1]
      rw [pF] at e7
      have ea := wt_addE (x := q7.1) (y := p.1) (by omega) (by omega)
      have WB : wt_H (wp_rw_waysBehind n x1 u.1 (q7.1 + p.1) p.2) (fun q => q.2 = p.2 ∧ q.1.toInt = wu_wy s W m o (m - 1 - i) (wu_F s (o i) + Int32.toNatClampNeg p.1)) := by
        by_cases x : i + 1 < m
        · have hw1 := (a8 (i + 1) x).1
          refine (wh_waysBehind n hn (RR _ fp) h1 (i := i + 1) (P := fun v => wu_mf s (wu_F s (o i) + Int32.toNatClampNeg p.1) v) (y := fun v => wu_wy s W m o (m - 1 - (i + 1)) v) (by omega) x (fun k hk => ?_) (fun v w hv hwv => ?_)).imp (fun q hq => ⟨hq.1, ?_⟩)
          · rw [pZ] at hk
            have b := wu_wy_bd R (m - 1 - (i + 1)) (by omega) (wu_F s (o (i + 1)) + k)
            have p5 := wu_p5_bd (m - 1 - (i + 1)) (by omega)
            rw [pF]
            exact ⟨j2 (i + 1) (by omega) x k hk, b.1, by omega⟩
          · have := wh_mayC n hn (RR _ fp) (x := q7.1 + p.1) (y := w) (w := wu_F s (o i) + Int32.toNatClampNeg p.1) (v := v) (by omega) hwv (by omega) hv
            rw [pM] at this
            exact this
          · rw [hq.2, pF, pZ]
            have e : m - 1 - i = (m - 1 - (i + 1)) + 1 := by omega
            rw [e]
            have sg := wu_seg gs a5 a4 hw1 (fun v => wu_mf s (wu_F s (o i) + Int32.toNatClampNeg p.1) v) (fun v => wu_wy s W m o (m - 1 - (i + 1)) v)
            show _ = wt_sum (fun v => if (wu_of s (o (m - 1 - (m - 1 - (i + 1)))) v && wu_mf s (wu_F s (o i) + Int32.toNatClampNeg p.1) v) = true then wu_wy s W m o (m - 1 - (i + 1)) v else 0) W
            rw [show m - 1 - (m - 1 - (i + 1)) = i + 1 by omega]
            exact sg.symm
        · have eu1 := wt_i1 (c := u.1) (by omega)
          unfold wp_rw_waysBehind
          refine wt_H_bh (wh_lengthOf n hn h1 a1 (by rw [fp.2 36 (by decide)]; exact a6)) (fun q1 e1 => ?_)
          rw [if_neg (show ¬ (u.1 + (1 : Int32)) < q1.1 from fun h => by have := wt_clt h; omega), e1.1]
          refine wt_H_some ⟨rfl, ?_⟩
          rw [show m - 1 - i = 0 by omega]
          show ((1 : Int32)).toInt = 1
          decide
      refine wt_H_bh WB (fun q8 e8 => ?_)
      rw [e8.1]
      have em := wt_mulR (x := u.1) k5 (by omega) (by omega)
      have ek := wt_addE (x := u.1 * (5 : Int32)) (y := p.1) (by omega) (by omega)
      refine wt_H_bh (wh_put n (k := 5 * i + Int32.toNatClampNeg p.1) (by omega) (by rw [show wt_ln 82 = 60 from by decide]; omega)) (fun q9 ε => ?_)
      refine hK2 _ ⟨⟨by show 0 ≤ (p.1 + (1 : Int32)).toInt; omega, by show (p.1 + (1 : Int32)).toInt ≤ _; omega⟩, fp.sa ε rfl, fun i' h1 h2 k hk => ?_, fun k hk => ?_⟩
      · obtain ⟨-, -, ⟨-, w2, -⟩, -⟩ := wu_grp gs a5 a4 (a8 i' h2).1
        rw [wt_w_sa ε _ (by omega)]
        exact j2 i' h1 h2 k hk
      · have hk' : (k : Int) < (p.1 + (1 : Int32)).toInt := hk
        show (wt_ga q9 82 (5 * i + k)).toInt = _
        by_cases x : k = Int32.toNatClampNeg p.1
        · rw [x, wt_v_sa ε]
          exact e8.2
        · rw [wt_w_sa ε _ (by omega)]
          exact j3 k (by omega)
end WTQ0
-- 96x.rests.lean.txt
section WTQ1
/-! the reference's rests: the least price of what can follow, and in how many ways -/
def wu_cp (x : Int) : Int := if x ≤ 1000000 then x else 1000000
theorem wu_cp_add {a b : Int} (ha : 0 ≤ a) (hb : 0 ≤ b) : wu_cp (wu_cp a + wu_cp b) = wu_cp (a + b) := by
  unfold wu_cp
  (repeat' split) <;> omega
theorem wu_cp_bd {a : Int} (ha : 0 ≤ a) : 0 ≤ wu_cp a ∧ wu_cp a ≤ 1000000 := by
  unfold wu_cp
  split <;> omega
/-- the least of those that are allowed, none as NONE -/
def wu_bs (f : Nat → Int) (P : Nat → Bool) : Nat → Int
  | 0 => -1
  | n + 1 => if P n = true ∧ f n ≠ -1 ∧ (wu_bs f P n = -1 ∨ f n < wu_bs f P n) then f n else wu_bs f P n
theorem wu_bs_sp {f : Nat → Int} {P : Nat → Bool} : ∀ n : Nat, (wu_bs f P n = -1 ∧ ∀ v, v < n → P v = true → f v = -1) ∨ ∃ v, v < n ∧ P v = true ∧ f v ≠ -1 ∧ wu_bs f P n = f v := by
  intro n
  induction n with
  | zero => exact Or.inl ⟨rfl, fun v hv => absurd hv (by omega)⟩
  | succ n ih =>
    by_cases c : P n = true ∧ f n ≠ -1 ∧ (wu_bs f P n = -1 ∨ f n < wu_bs f P n)
    · have e : wu_bs f P (n + 1) = f n := if_pos c
      exact Or.inr ⟨n, by omega, c.1, c.2.1, e⟩
    · have e : wu_bs f P (n + 1) = wu_bs f P n := if_neg c
      rw [e]
      rcases ih with ⟨a, b⟩ | ⟨v, v1, v2, v3, v4⟩
      · refine Or.inl ⟨a, fun v hv hp => ?_⟩
        by_cases x : v = n
        · rw [x] at hp ⊢
          by_cases y : f n = -1
          · exact y
          · exact absurd ⟨hp, y, Or.inl a⟩ c
        · exact b v (by omega) hp
      · exact Or.inr ⟨v, by omega, v2, v3, v4⟩
theorem wt_sum_ge {f : Nat → Int} {m v : Nat} (h : ∀ k, k < m → 0 ≤ f k) (hv : v < m) : f v ≤ wt_sum f m := by
  have a := wt_sum_pre (f := f) (a := v + 1) m (by omega) h
  have b := wt_sum_pre (f := f) (a := 0) v (by omega) (fun k hk => h k (by omega))
  have e : wt_sum f (v + 1) = wt_sum f v + f v := rfl
  have e0 : wt_sum f 0 = 0 := rfl
  omega
/-- the price of a word, and of the least rest -/
def wu_pw (z : wt_St) (w : Nat) : Int := wt_sum (fun k => (wt_ga z 115 (Int32.toNatClampNeg (wt_ga z (193 + w) k))).toInt) (Int32.toNatClampNeg (wt_ga z 126 w))
def wu_pr (s z : wt_St) (W m : Nat) (o : Nat → Nat) : Nat → Nat → Int
  | 0, w => wu_pw z w
  | d + 1, w => if wu_bs (fun v => wu_pr s z W m o d v) (fun v => wu_of s (o (m - 1 - d)) v && wu_mf s w v) W = -1 then -1 else wu_bs (fun v => wu_pr s z W m o d v) (fun v => wu_of s (o (m - 1 - d)) v && wu_mf s w v) W + wu_pw z w
theorem wu_pw_bd {s z : wt_St} {t m W G w : Nat} {o : Nat → Nat} (R : wu_RW s z t m W G o) (r : wt_RI z) (hw : w < W) : 0 ≤ wu_pw z w ∧ wu_pw z w ≤ 891 := by
  obtain ⟨-, -, -, tt, -⟩ := R
  obtain ⟨a, -, -, b, -⟩ := tt w hw
  have e := wt_tnle (b := 9) (x := wt_ga z 126 w) (by rw [← a]; omega)
  have h := wt_sum_bd (f := fun k => (wt_ga z 115 (Int32.toNatClampNeg (wt_ga z (193 + w) k))).toInt) (c := 99) (Int32.toNatClampNeg (wt_ga z 126 w)) (fun k _ => by
    have g : 0 ≤ (wt_ga z 115 (Int32.toNatClampNeg (wt_ga z (193 + w) k))).toInt ∧ (wt_ga z 115 (Int32.toNatClampNeg (wt_ga z (193 + w) k))).toInt ≤ 99 := wt_Ra18 r 115 (show 114 ≤ 115 by omega) (show 115 < 116 by omega) _
    exact g)
  unfold wu_pw
  omega
theorem wu_pr_sp {s z : wt_St} {t m W G : Nat} {o : Nat → Nat} (R : wu_RW s z t m W G o) (r : wt_RI z) : ∀ d, d < m → ∀ w, w < W → (wu_pr s z W m o d w = -1 ∨ (0 ≤ wu_pr s z W m o d w ∧ wu_pr s z W m o d w ≤ 891 * ((d : Int) + 1))) ∧ (wu_pr s z W m o d w = -1 ↔ wu_wy s W m o d w = 0) := by
  intro d
  induction d with
  | zero =>
    intro _ w hw
    have b := wu_pw_bd R r hw
    have e : wu_pr s z W m o 0 w = wu_pw z w := rfl
    have e2 : wu_wy s W m o 0 w = 1 := rfl
    rw [e, e2]
    exact ⟨Or.inr ⟨b.1, by omega⟩, ⟨fun h => by omega, fun h => by omega⟩⟩
  | succ d ih =>
    intro hd w hw
    have b := wu_pw_bd R r hw
    have e2 : wu_wy s W m o (d + 1) w = wt_sum (fun v => if (wu_of s (o (m - 1 - d)) v && wu_mf s w v) = true then wu_wy s W m o d v else 0) W := rfl
    have nn : ∀ v, v < W → 0 ≤ (if (wu_of s (o (m - 1 - d)) v && wu_mf s w v) = true then wu_wy s W m o d v else 0) := fun v _ => by
      have := (wu_wy_bd R d (by omega) v).1
      split <;> omega
    rcases wu_bs_sp (f := fun v => wu_pr s z W m o d v) (P := fun v => wu_of s (o (m - 1 - d)) v && wu_mf s w v) W with ⟨c1, c2⟩ | ⟨v, v1, v2, v3, v4⟩
    · have e : wu_pr s z W m o (d + 1) w = -1 := if_pos c1
      refine ⟨Or.inl e, ⟨fun _ => ?_, fun _ => e⟩⟩
      rw [e2]
      refine wt_sum_z W (fun v hv => ?_)
      show (if (wu_of s (o (m - 1 - d)) v && wu_mf s w v) = true then wu_wy s W m o d v else 0) = 0
      by_cases p : (wu_of s (o (m - 1 - d)) v && wu_mf s w v) = true
      · rw [if_pos p]
        exact ((ih (by omega) v hv).2).mp (c2 v hv p)
      · rw [if_neg p]
    · have v3' : wu_pr s z W m o d v ≠ -1 := v3
      have v4' : wu_bs (fun v => wu_pr s z W m o d v) (fun v => wu_of s (o (m - 1 - d)) v && wu_mf s w v) W = wu_pr s z W m o d v := v4
      obtain ⟨i1, i2⟩ := ih (by omega) v v1
      have e : wu_pr s z W m o (d + 1) w = wu_pr s z W m o d v + wu_pw z w := by
        show (if wu_bs (fun v => wu_pr s z W m o d v) (fun v => wu_of s (o (m - 1 - d)) v && wu_mf s w v) W = -1 then -1 else wu_bs (fun v => wu_pr s z W m o d v) (fun v => wu_of s (o (m - 1 - d)) v && wu_mf s w v) W + wu_pw z w) = _
        rw [v4', if_neg v3']
      have i1' : 0 ≤ wu_pr s z W m o d v ∧ wu_pr s z W m o d v ≤ 891 * ((d : Int) + 1) := by
        rcases i1 with i1 | i1
        · exact absurd i1 v3'
        · exact i1
      rw [e]
      refine ⟨Or.inr ⟨by omega, by rw [show ((d + 1 : Nat) : Int) = (d : Int) + 1 from rfl]; omega⟩, ⟨fun h => by omega, fun h => ?_⟩⟩
      exfalso
      have g := wt_sum_ge nn v1
      have v2' : (wu_of s (o (m - 1 - d)) v && wu_mf s w v) = true := v2
      have g' : (if (wu_of s (o (m - 1 - d)) v && wu_mf s w v) = true then wu_wy s W m o d v else 0) ≤ wu_wy s W m o (d + 1) w := by
        rw [e2]
        exact g
      rw [if_pos v2'] at g'
      have w0 := (wu_wy_bd R d (by omega) v).1
      exact v3' (i2.mpr (by omega))
theorem wh_priceM (n : Nat) {s z : wt_St} {t m W G w : Nat} {o : Nat → Nat} {x : Int32} (R : wu_RW s z t m W G o) (r : wt_RI z) (hx : x.toInt = (w : Int)) (hw : w < W) : wt_H (wp_md_priceOf n x z) (fun q => q.2 = z ∧ q.1.toInt = wu_pw z w) := by
  have k0 : (0 : Int32).toInt = 0 := by decide
  have R' := R
  obtain ⟨-, -, -, tt, -⟩ := R'
  obtain ⟨a, -, -, b, -, c⟩ := tt w hw
  have ew := wt_tnN hx
  have a' : wt_ga s 22 w = wt_ga z 126 w := a
  have b' : 1 ≤ (wt_ga s 22 w).toInt ∧ (wt_ga s 22 w).toInt ≤ 9 := b
  rw [a'] at b'
  have el := wt_tnI (x := wt_ga z 126 w) (by omega)
  unfold wp_md_priceOf
  refine wt_H_it (fun u : Int32 × Int32 × wt_St => u.2.2 = z ∧ (0 ≤ u.2.1.toInt ∧ u.2.1.toInt ≤ (wt_ga z 126 w).toInt) ∧ u.1.toInt = wt_sum (fun k => (wt_ga z 115 (Int32.toNatClampNeg (wt_ga z (193 + w) k))).toInt) (Int32.toNatClampNeg u.2.1)) (fun K u I hK => ?_) n _ ⟨rfl, ⟨by show 0 ≤ ((0 : Int32)).toInt; omega, by show ((0 : Int32)).toInt ≤ _; omega⟩, by show ((0 : Int32)).toInt = wt_sum _ (Int32.toNatClampNeg (0 : Int32)); rw [wt_tn0, k0]; rfl⟩
  obtain ⟨i0, ⟨i1, i2⟩, i3⟩ := I
  have eu := wt_tnI i1
  unfold wp_md_priceOf_B4
  rw [i0, ew]
  refine wt_H_gd (fun _ => wt_H_if (fun d => ?_) (fun d => ?_))
  · have d' := wt_cle d
    refine wt_H_some ⟨rfl, ?_⟩
    show u.1.toInt = wu_pw z w
    unfold wu_pw
    rw [i3, show Int32.toNatClampNeg u.2.1 = Int32.toNatClampNeg (wt_ga z 126 w) by omega]
  · have d' := wt_ncle d
    have ei := wt_i1 (c := u.2.1) (by omega)
    have en : Int32.toNatClampNeg (u.2.1 + (1 : Int32)) = Int32.toNatClampNeg u.2.1 + 1 := by have := wt_tnI (x := u.2.1 + (1 : Int32)) (by omega); omega
    have g : ∀ j, 0 ≤ (wt_ga z 115 j).toInt ∧ (wt_ga z 115 j).toInt ≤ 99 := fun j => wt_Ra18 r 115 (show 114 ≤ 115 by omega) (show 115 < 116 by omega) j
    have sb := wt_sum_bd (f := fun k => (wt_ga z 115 (Int32.toNatClampNeg (wt_ga z (193 + w) k))).toInt) (c := 99) (Int32.toNatClampNeg u.2.1) (fun k _ => g _)
    have gk := g (Int32.toNatClampNeg (wt_ga z (193 + w) (Int32.toNatClampNeg u.2.1)))
    have ea := wt_addE (x := u.1) (y := wt_ga z 115 (Int32.toNatClampNeg (wt_ga z (193 + w) (Int32.toNatClampNeg u.2.1)))) (by omega) (by omega)
    refine wt_H_gd (fun _ => wt_H_gd (fun _ => wt_H_gd (fun _ => ?_)))
    refine hK _ ⟨rfl, ⟨by show 0 ≤ (u.2.1 + (1 : Int32)).toInt; omega, by show (u.2.1 + (1 : Int32)).toInt ≤ _; omega⟩, ?_⟩
    show (u.1 + wt_ga z 115 (Int32.toNatClampNeg (wt_ga z (193 + w) (Int32.toNatClampNeg u.2.1)))).toInt = wt_sum _ (Int32.toNatClampNeg (u.2.1 + (1 : Int32)))
    rw [en, ea, i3]
    rfl
theorem wh_priceC (n : Nat) (hn : 4294967297 < n) {s z : wt_St} {t m W G w : Nat} {o : Nat → Nat} {x : Int32} (R : wu_RW s z t m W G o) (r : wt_RI z) (hx : x.toInt = (w : Int)) (hw : w < W) : wt_H (wp_rw_priceOf n x s) (fun q => q.2 = s ∧ q.1.toInt = wu_pw z w) := fun q hq => by
  obtain ⟨y, hy, -⟩ := wq_md_priceOf n hn x z r (by omega) (by have := R.1.2.2.2.1; omega)
  have a := wr_priceW n hn R.2.2.2.1 R.1.2.2.2.1 R.2.2.2.2.2.2 hx hw q y hq hy
  exact ⟨a.2.1, by rw [a.1]; exact (wh_priceM n R r hx hw y hy).2⟩
/-- what is laid for a place -/
def wu_LR (s z q : wt_St) (W m : Nat) (o : Nat → Nat) (i w : Nat) : Prop := (wt_ga q (292 + i) w).toInt = (if wu_of s (o i) w = true then wu_pr s z W m o (m - 1 - i) w else -1) ∧ (wt_ga q (305 + i) w).toInt = if wu_of s (o i) w = true then wu_cp (wu_wy s W m o (m - 1 - i) w) else 0
set_option maxHeartbeats 4000000 in
theorem wh_laysRests (n : Nat) (hn : 4294967297 < n) {s z : wt_St} {t m W G : Nat} {o : Nat → Nat} {x1 : Int32} (R : wu_RW s z t m W G o) (r : wt_RI z) (h1 : x1.toInt = (t : Int)) : wt_H (wp_md_laysRests n x1 z) (fun q => wt_fr (fun _ _ => False) (fun i => 292 ≤ i ∧ i < 317) z q ∧ ∀ i, i < m → ∀ w, w < W → wu_LR s z q W m o i w) := by
  have k0 : (0 : Int32).toInt = 0 := by decide
  have k1 : (1 : Int32).toInt = 1 := by decide
  have kM : (1000000 : Int32).toInt = 1000000 := by decide
  have R' := R
  obtain ⟨⟨a1, a2, a3, a4, a5⟩, ⟨-, a6, a7⟩, a8, -, gs, -⟩ := R'
  have et := wt_tnN h1
  have RR : ∀ q, wt_fr (fun _ _ => False) (fun i => 292 ≤ i ∧ i < 317) z q → wu_RW s q t m W G o := fun q f => wu_RW_fr R (wt_fr.rf (F := fun _ _ => False) (A := fun _ => False)) f (fun _ _ h => h) (fun h => h) (fun i hi => by (try dsimp only); omega)
  have NI : ∀ {σ σ' : wt_St} {i j : Nat} {v : Int32}, wt_RI σ → σ' = wt_sa σ i j v → 292 ≤ i → i < 317 → wt_RI σ' := fun h e i1 i2 => wt_RI_no h e 292 317 (by decide +kernel) i1 i2
  have PW : ∀ q w, wt_fr (fun _ _ => False) (fun i => 292 ≤ i ∧ i < 317) z q → w < W → wu_pw q w = wu_pw z w := fun q w f hw => by
    unfold wu_pw
    rw [f.2 126 (by (try dsimp only); omega)]
    exact wt_sum_congr _ (fun k _ => by
      show (wt_ga q 115 (Int32.toNatClampNeg (wt_ga q (193 + w) k))).toInt = (wt_ga z 115 (Int32.toNatClampNeg (wt_ga z (193 + w) k))).toInt
      rw [f.2 (193 + w) (by (try dsimp only); omega), f.2 115 (by (try dsimp only); omega)])
  unfold wp_md_laysRests
  rw [et]
  refine wt_H_gd (fun _ => ?_)
  have es := wt_subE (x := wt_ga z 253 t) (y := (1 : Int32)) (by omega) (by omega)
  refine wt_H_it (fun u : Int32 × wt_St => (-1 ≤ u.1.toInt ∧ u.1.toInt < (m : Int)) ∧ wt_RI u.2 ∧ wt_fr (fun _ _ => False) (fun i => 292 ≤ i ∧ i < 317) z u.2 ∧ ∀ i : Nat, u.1.toInt < (i : Int) → i < m → ∀ w, w < W → wu_LR s z u.2 W m o i w) (fun K u I hK => ?_) n _ ⟨⟨by show -1 ≤ (wt_ga z 253 t - (1 : Int32)).toInt; omega, by show (wt_ga z 253 t - (1 : Int32)).toInt < _; omega⟩, r, wt_fr.rf, fun i h1 h2 => absurd (show (wt_ga z 253 t - (1 : Int32)).toInt < (i : Int) from h1) (by omega)⟩
  obtain ⟨⟨i0, i1⟩, ru, fu, i2⟩ := I
  unfold wp_md_laysRests_B9
  refine wt_H_if (fun c => ?_) (fun c => ?_)
  · have c' := wt_clt c
    exact wt_H_some ⟨fu, fun i hi w hw => i2 i (by omega) hi w hw⟩
  have c' := wt_ncl c
  obtain ⟨i, hi⟩ : ∃ i : Nat, i = Int32.toNatClampNeg u.1 := ⟨_, rfl⟩
  have ei := wt_tnI (x := u.1) (by omega)
  rw [← hi] at ei
  have hw := (a8 i (by omega)).1
  obtain ⟨um, eum⟩ : ∃ y : Int32, y = u.1 + (-1 : Int32) := ⟨_, rfl⟩
  have ed : um.toInt = u.1.toInt - 1 := by rw [eum]; exact wt_d1 (by omega)
  have eu1 := wt_i1 (c := u.1) (by omega)
  refine wt_H_it (fun p : Int32 × wt_St => (0 ≤ p.1.toInt ∧ p.1.toInt ≤ (W : Int)) ∧ wt_RI p.2 ∧ wt_fr (fun _ _ => False) (fun i => 292 ≤ i ∧ i < 317) z p.2 ∧ (∀ i' : Nat, i < i' → i' < m → ∀ w, w < W → wu_LR s z p.2 W m o i' w) ∧ ∀ w : Nat, (w : Int) < p.1.toInt → wu_LR s z p.2 W m o i w) (fun K2 p J hK2 => ?_) n _ ⟨⟨by show 0 ≤ ((0 : Int32)).toInt; omega, by show ((0 : Int32)).toInt ≤ _; omega⟩, ru, fu, fun i' h1 h2 => i2 i' (by omega) h2, fun w hw => absurd (show (w : Int) < ((0 : Int32)).toInt from hw) (by omega)⟩
  obtain ⟨⟨j0, j1⟩, rp, fp, j2, j3⟩ := J
  have ep := wt_tnI j0
  unfold wp_md_laysRests_B15
  rw [fp.1 108 28 (fun h => h)]
  refine wt_H_if (fun d => ?_) (fun d => ?_)
  · have d' := wt_cle d
    rw [← eum]
    refine hK _ ⟨⟨by show -1 ≤ um.toInt; omega, by show um.toInt < _; omega⟩, rp, fp, fun i' h1 h2 w hw' => ?_⟩
    have h1' : um.toInt < (i' : Int) := h1
    by_cases x : i' = i
    · rw [x]
      exact j3 w (by omega)
    · exact j2 i' (by omega) h2 w hw'
  have d' := wt_ncle d
  have epi := wt_i1 (c := p.1) (by omega)
  obtain ⟨w, hww⟩ : ∃ w : Nat, w = Int32.toNatClampNeg p.1 := ⟨_, rfl⟩
  rw [← hww] at ep
  rw [← hi, ← hww, et]
  refine wt_H_gd (fun _ => wt_H_gd (fun _ => wt_H_gd (fun _ => wt_H_gd (fun _ => ?_))))
  obtain ⟨s1, ε1⟩ : ∃ q : wt_St, q = wt_sa p.2 (292 + i) w (-1 : Int32) := ⟨_, rfl⟩
  rw [← ε1]
  obtain ⟨s2, ε2⟩ : ∃ q : wt_St, q = wt_sa s1 (305 + i) w (0 : Int32) := ⟨_, rfl⟩
  rw [← ε2]
  have f1 := wt_fr_sa ε1
  have f2 := wt_fr_sa ε2
  have fs2 : wt_fr (fun _ _ => False) (fun i => 292 ≤ i ∧ i < 317) z s2 := (fp.sa ε1 (by (try dsimp only); omega)).sa ε2 (by (try dsimp only); omega)
  have rs2 : wt_RI s2 := NI (NI rp ε1 (by omega) (by omega)) ε2 (by omega) (by omega)
  -- a row of a state that differs from p.2 at this word of this place alone
  have NX : ∀ q : wt_St, wt_RI q → wt_fr (fun _ _ => False) (fun i => 292 ≤ i ∧ i < 317) z q → (∀ a b, a ≠ 292 + i → a ≠ 305 + i → wt_ga q a b = wt_ga p.2 a b) → (∀ a b, b ≠ w → wt_ga q a b = wt_ga p.2 a b) → wu_LR s z q W m o i w → wt_H (K2 ((p.1 + (1 : Int32)), q)) (fun q => wt_fr (fun _ _ => False) (fun i => 292 ≤ i ∧ i < 317) z q ∧ ∀ i, i < m → ∀ w, w < W → wu_LR s z q W m o i w) := fun q rq fq q1 q2 q3 => by
    refine hK2 _ ⟨⟨by show 0 ≤ (p.1 + (1 : Int32)).toInt; omega, by show (p.1 + (1 : Int32)).toInt ≤ _; omega⟩, rq, fq, fun i' h1 h2 w' hw' => ?_, fun w' hw' => ?_⟩
    · have := j2 i' h1 h2 w' hw'
      unfold wu_LR at this ⊢
      rw [q1 (292 + i') w' (by omega) (by omega), q1 (305 + i') w' (by omega) (by omega)]
      exact this
    · have hw2 : (w' : Int) < (p.1 + (1 : Int32)).toInt := hw'
      show wu_LR s z q W m o i w'
      by_cases x : w' = w
      · rw [x]
        exact q3
      · have := j3 w' (by omega)
        unfold wu_LR at this ⊢
        rw [q2 (292 + i) w' x, q2 (305 + i) w' x]
        exact this
  have D1 : ∀ a b, a ≠ 292 + i → a ≠ 305 + i → wt_ga s2 a b = wt_ga p.2 a b := fun a b h1 h2 => (f2.2 a h2 b).trans (f1.2 a h1 b)
  have D2 : ∀ a b, b ≠ w → wt_ga s2 a b = wt_ga p.2 a b := fun a b hb => by
    by_cases x : a = 305 + i
    · rw [x, wt_w_sa ε2 b hb]
      exact f1.2 (305 + i) (by (try dsimp only); omega) b
    · rw [f2.2 a x b]
      by_cases y : a = 292 + i
      · rw [y, wt_w_sa ε1 b hb]
      · exact f1.2 a y b
  refine wt_H_bh (wh_isOfM n (RR _ fs2) ep.symm (by omega) h1 ei.symm (by omega)) (fun q8 e8 => ?_)
  obtain ⟨e8, e9⟩ := e8
  rw [e8]
  unfold wp_md_laysRests_B279
  rcases e9 with ⟨o1, o2⟩ | ⟨o1, o2⟩
  rotate_left
  · rw [if_pos (show q8.1 = 0 from o1)]
    refine NX s2 rs2 fs2 D1 D2 ⟨?_, ?_⟩
    · rw [o2, if_neg (by decide), f2.2 (292 + i) (by (try dsimp only); omega), wt_v_sa ε1]
      exact wt_lm1
    · rw [o2, if_neg (by decide), wt_v_sa ε2]
      exact k0
  rw [if_neg (show ¬ q8.1 = 0 by rw [o1]; decide), fs2.2 253 (by (try dsimp only); omega)]
  refine wt_H_gd (fun _ => wt_H_if (fun g => ?_) (fun g => ?_))
  · -- the last place
    have g' := wt_ceq g
    have im : i = m - 1 := by omega
    refine wt_H_gd (fun _ => ?_)
    refine wt_H_bh (wh_priceM n (RR _ fs2) rs2 ep.symm (by omega)) (fun q42 h42 => ?_)
    obtain ⟨h42, v42⟩ := h42
    rw [PW _ _ fs2 (by omega)] at v42
    refine wt_H_gd (fun _ => wt_H_gd (fun _ => wt_H_gd (fun _ => ?_)))
    rw [h42]
    obtain ⟨s3, ε3⟩ : ∃ q : wt_St, q = wt_sa s2 (292 + i) w q42.1 := ⟨_, rfl⟩
    rw [← ε3]
    obtain ⟨s4, ε4⟩ : ∃ q : wt_St, q = wt_sa s3 (305 + i) w (1 : Int32) := ⟨_, rfl⟩
    rw [← ε4]
    have f3 := wt_fr_sa ε3
    have f4 := wt_fr_sa ε4
    refine NX s4 (NI (NI rs2 ε3 (by omega) (by omega)) ε4 (by omega) (by omega)) ((fs2.sa ε3 (by (try dsimp only); omega)).sa ε4 (by (try dsimp only); omega)) (fun a b h1 h2 => (f4.2 a h2 b).trans ((f3.2 a h1 b).trans (D1 a b h1 h2))) (fun a b hb => ?_) ⟨?_, ?_⟩
    · by_cases x : a = 305 + i
      · rw [x, wt_w_sa ε4 b hb, f3.2 (305 + i) (by (try dsimp only); omega) b]
        exact D2 _ b hb
      · rw [f4.2 a x b]
        by_cases y : a = 292 + i
        · rw [y, wt_w_sa ε3 b hb]
          exact D2 _ b hb
        · rw [f3.2 a y b]
          exact D2 _ b hb
    · rw [o2, if_pos rfl, f4.2 (292 + i) (by (try dsimp only); omega), wt_v_sa ε3, v42, show m - 1 - i = 0 by omega]
      rfl
    · rw [o2, if_pos rfl, wt_v_sa ε4, k1, show m - 1 - i = 0 by omega]
      rfl
  -- a place ahead of others
  have g' : i + 1 < m := by
    have := wt_nceq g
    omega
  obtain ⟨Pv, hPv⟩ : ∃ Pv : Nat → Bool, Pv = fun v => wu_of s (o (i + 1)) v && wu_mf s w v := ⟨_, rfl⟩
  obtain ⟨dd, hdd⟩ : ∃ dd : Nat, dd = m - 1 - (i + 1) := ⟨_, rfl⟩
  have ei1 : (u.1 + (1 : Int32)).toInt = ((i + 1 : Nat) : Int) := by omega
  have en1 : Int32.toNatClampNeg (u.1 + (1 : Int32)) = i + 1 := wt_tnN ei1
  refine wt_H_it (fun v : Int32 × Int32 × wt_St => (0 ≤ v.2.1.toInt ∧ v.2.1.toInt ≤ (W : Int)) ∧ wt_RI v.2.2 ∧ wt_fr (fun _ _ => False) (fun a => a = 305 + i) s2 v.2.2 ∧ (∀ b, b ≠ w → wt_ga v.2.2 (305 + i) b = wt_ga s2 (305 + i) b) ∧ v.1.toInt = wu_bs (fun x => wu_pr s z W m o dd x) Pv (Int32.toNatClampNeg v.2.1) ∧ (wt_ga v.2.2 (305 + i) w).toInt = wu_cp (wt_sum (fun x => if Pv x = true then wu_wy s W m o dd x else 0) (Int32.toNatClampNeg v.2.1))) (fun K3 v L hK3 => ?_) n _ ⟨⟨by show 0 ≤ ((0 : Int32)).toInt; omega, by show ((0 : Int32)).toInt ≤ _; omega⟩, rs2, wt_fr.rf, fun _ _ => rfl, by show ((-1 : Int32)).toInt = wu_bs _ _ (Int32.toNatClampNeg (0 : Int32)); rw [wt_tn0, wt_lm1]; rfl, by
    show (wt_ga s2 (305 + i) w).toInt = wu_cp (wt_sum _ (Int32.toNatClampNeg (0 : Int32)))
    rw [wt_tn0, wt_v_sa ε2, k0]
    rfl⟩
  obtain ⟨⟨l0, l1⟩, rv, fv, l2, l3, l4⟩ := L
  have ev := wt_tnI l0
  have Fv : wt_fr (fun _ _ => False) (fun i => 292 ≤ i ∧ i < 317) z v.2.2 := wt_fr.tr fs2 fv (fun _ _ h => h) (fun a h => by have h' : a = 305 + i := h; omega)
  have E1 : ∀ a b, a ≠ 292 + i → a ≠ 305 + i → wt_ga v.2.2 a b = wt_ga p.2 a b := fun a b h1 h2 => (fv.2 a h2 b).trans (D1 a b h1 h2)
  have E2 : ∀ a b, b ≠ w → wt_ga v.2.2 a b = wt_ga p.2 a b := fun a b hb => by
    by_cases x : a = 305 + i
    · rw [x, l2 b hb]
      exact D2 _ b hb
    · rw [fv.2 a x b]
      exact D2 _ b hb
  unfold wp_md_laysRests_B97 wp_md_laysRests_B278 wp_md_laysRests_B279
  rw [Fv.1 108 28 (fun h => h), ← hi, ← hww]
  refine wt_H_if (fun h => ?_) (fun h => ?_)
  · -- all that can follow are seen
    have h' := wt_cle h
    have eW : Int32.toNatClampNeg v.2.1 = W := by omega
    rw [eW] at l3 l4
    have many : wu_cp (wu_wy s W m o (m - 1 - i) w) = wu_cp (wt_sum (fun x => if Pv x = true then wu_wy s W m o dd x else 0) W) := by
      rw [show m - 1 - i = dd + 1 by omega, hPv]
      show wu_cp (wt_sum (fun v => if (wu_of s (o (m - 1 - dd)) v && wu_mf s w v) = true then wu_wy s W m o dd v else 0) W) = _
      rw [show m - 1 - dd = i + 1 by omega]
    have prs : wu_pr s z W m o (m - 1 - i) w = if wu_bs (fun x => wu_pr s z W m o dd x) Pv W = -1 then -1 else wu_bs (fun x => wu_pr s z W m o dd x) Pv W + wu_pw z w := by
      rw [show m - 1 - i = dd + 1 by omega, hPv]
      show (if wu_bs (fun v => wu_pr s z W m o dd v) (fun v => wu_of s (o (m - 1 - dd)) v && wu_mf s w v) W = -1 then -1 else wu_bs (fun v => wu_pr s z W m o dd v) (fun v => wu_of s (o (m - 1 - dd)) v && wu_mf s w v) W + wu_pw z w) = _
      rw [show m - 1 - dd = i + 1 by omega]
    have FIN : ∀ y : Int32, y.toInt = wu_pr s z W m o (m - 1 - i) w → wt_H (K2 ((p.1 + (1 : Int32)), wt_sa v.2.2 (292 + i) w y)) (fun q => wt_fr (fun _ _ => False) (fun i => 292 ≤ i ∧ i < 317) z q ∧ ∀ i, i < m → ∀ w, w < W → wu_LR s z q W m o i w) := fun y hy => by
      obtain ⟨s3, ε3⟩ : ∃ q : wt_St, q = wt_sa v.2.2 (292 + i) w y := ⟨_, rfl⟩
      rw [← ε3]
      have f3 := wt_fr_sa ε3
      refine NX s3 (NI rv ε3 (by omega) (by omega)) (Fv.sa ε3 (by (try dsimp only); omega)) (fun a b h1 h2 => (f3.2 a h1 b).trans (E1 a b h1 h2)) (fun a b hb => ?_) ⟨?_, ?_⟩
      · by_cases y : a = 292 + i
        · rw [y, wt_w_sa ε3 b hb]
          exact E2 _ b hb
        · rw [f3.2 a y b]
          exact E2 _ b hb
      · rw [o2, if_pos rfl, wt_v_sa ε3]
        exact hy
      · rw [o2, if_pos rfl, f3.2 (305 + i) (by (try dsimp only); omega), l4, many]
    refine wt_H_gd (fun _ => wt_H_if (fun y => ?_) (fun y => ?_))
    · refine wt_H_gd (fun _ => FIN _ ?_)
      rw [prs, ← l3, y, wt_lm1, if_pos rfl]
    · have y' : v.1.toInt ≠ -1 := fun h => y (wt_eqI (by rw [h, wt_lm1]))
      refine wt_H_bh (wh_priceM n (RR _ Fv) rv ep.symm (by omega)) (fun q15 h15 => ?_)
      obtain ⟨h15, v15⟩ := h15
      rw [PW _ _ Fv (by omega)] at v15
      rw [h15]
      have pb := wu_pw_bd R r (show w < W by omega)
      have sp := wu_bs_sp (f := fun x => wu_pr s z W m o dd x) (P := Pv) W
      have bb : 0 ≤ v.1.toInt ∧ v.1.toInt ≤ 10692 := by
        rw [l3]
        rcases sp with ⟨q, -⟩ | ⟨x, x1, -, x3, x4⟩
        · rw [← l3] at q
          exact absurd q y'
        · rw [x4]
          have x3' : wu_pr s z W m o dd x ≠ -1 := x3
          rcases (wu_pr_sp R r dd (by omega) x x1).1 with q | q
          · exact absurd q x3'
          · exact ⟨q.1, by omega⟩
      have ea := wt_addE (x := v.1) (y := q15.1) (by omega) (by omega)
      refine wt_H_gd (fun _ => FIN _ ?_)
      rw [prs, ← l3, if_neg y', ea, v15]
  have h' := wt_ncle h
  have evi := wt_i1 (c := v.2.1) (by omega)
  have env : Int32.toNatClampNeg (v.2.1 + (1 : Int32)) = Int32.toNatClampNeg v.2.1 + 1 := by have := wt_tnI (x := v.2.1 + (1 : Int32)) (by omega); omega
  obtain ⟨x, hx⟩ : ∃ x : Nat, x = Int32.toNatClampNeg v.2.1 := ⟨_, rfl⟩
  rw [← hx] at ev l3 l4 env
  have hxW : x < W := by omega
  have bsS : wu_bs (fun x => wu_pr s z W m o dd x) Pv (x + 1) = if Pv x = true ∧ wu_pr s z W m o dd x ≠ -1 ∧ (wu_bs (fun x => wu_pr s z W m o dd x) Pv x = -1 ∨ wu_pr s z W m o dd x < wu_bs (fun x => wu_pr s z W m o dd x) Pv x) then wu_pr s z W m o dd x else wu_bs (fun x => wu_pr s z W m o dd x) Pv x := rfl
  have smS : wt_sum (fun x => if Pv x = true then wu_wy s W m o dd x else 0) (x + 1) = wt_sum (fun x => if Pv x = true then wu_wy s W m o dd x else 0) x + if Pv x = true then wu_wy s W m o dd x else 0 := rfl
  have snn := (wt_sum_bd (f := fun x => if Pv x = true then wu_wy s W m o dd x else 0) (c := wu_p5 dd) x (fun k _ => by
    have b := wu_wy_bd R dd (by omega) k
    have p5 := wu_p5_bd dd (by omega)
    show 0 ≤ (if Pv k = true then wu_wy s W m o dd k else 0) ∧ (if Pv k = true then wu_wy s W m o dd k else 0) ≤ wu_p5 dd
    split <;> omega)).1
  have LRx := j2 (i + 1) (by omega) g' x hxW
  have q292 : ∀ b, wt_ga v.2.2 (292 + (i + 1)) b = wt_ga p.2 (292 + (i + 1)) b := fun b => E1 _ b (by omega) (by omega)
  have q305 : ∀ b, wt_ga v.2.2 (305 + (i + 1)) b = wt_ga p.2 (305 + (i + 1)) b := fun b => E1 _ b (by omega) (by omega)
  -- it adds nothing
  have SKIP : (Pv x = true → wu_pr s z W m o dd x = -1) → wt_H (wp_md_laysRests_B247 n x1 u.1 p.1 v.1 v.2.1 K K2 K3 v.2.2) (fun q => wt_fr (fun _ _ => False) (fun i => 292 ≤ i ∧ i < 317) z q ∧ ∀ i, i < m → ∀ w, w < W → wu_LR s z q W m o i w) := fun hs => by
    unfold wp_md_laysRests_B247
    refine hK3 _ ⟨⟨by show 0 ≤ (v.2.1 + (1 : Int32)).toInt; omega, by show (v.2.1 + (1 : Int32)).toInt ≤ _; omega⟩, rv, fv, l2, ?_, ?_⟩
    · show v.1.toInt = wu_bs _ _ (Int32.toNatClampNeg (v.2.1 + (1 : Int32)))
      rw [env, bsS, if_neg (fun q => q.2.1 (hs q.1))]
      exact l3
    · show (wt_ga v.2.2 (305 + i) w).toInt = wu_cp (wt_sum _ (Int32.toNatClampNeg (v.2.1 + (1 : Int32))))
      rw [env, smS]
      have : (if Pv x = true then wu_wy s W m o dd x else 0) = 0 := by
        by_cases q : Pv x = true
        · rw [if_pos q]
          exact ((wu_pr_sp R r dd (by omega) x hxW).2).mp (hs q)
        · rw [if_neg q]
      rw [this, Int.add_zero]
      exact l4
  refine wt_H_bh (wh_isOfM n (RR _ Fv) (x := v.2.1) (v := x) (y2 := u.1 + (1 : Int32)) (i := i + 1) ev.symm hxW h1 ei1 g') (fun q17 h17 => ?_)
  obtain ⟨h17, q17'⟩ := h17
  rw [h17]
  rcases q17' with ⟨b1, b2⟩ | ⟨b1, b2⟩
  rotate_left
  · rw [if_pos (show q17.1 = 0 from b1)]
    exact SKIP (fun q => by rw [hPv] at q; dsimp only at q; rw [b2, Bool.false_and] at q; exact absurd q (by decide))
  rw [if_neg (show ¬ q17.1 = 0 by rw [b1]; decide)]
  refine wt_H_bh (wh_mayM n (RR _ Fv) (x := p.1) (y := v.2.1) (w := w) (v := x) ep.symm ev.symm (by omega) hxW) (fun q19 h19 => ?_)
  obtain ⟨h19, q19'⟩ := h19
  rw [h19]
  rcases q19' with ⟨c1, c2⟩ | ⟨c1, c2⟩
  rotate_left
  · rw [if_pos (show q19.1 = 0 from c1)]
    exact SKIP (fun q => by rw [hPv] at q; dsimp only at q; rw [c2, Bool.and_false] at q; exact absurd q (by decide))
  rw [if_neg (show ¬ q19.1 = 0 by rw [c1]; decide)]
  have Px : Pv x = true := by rw [hPv]; show (wu_of s (o (i + 1)) x && wu_mf s w x) = true; rw [b2, c2]; rfl
  unfold wu_LR at LRx
  rw [b2, if_pos rfl, if_pos rfl, ← hdd, ← q292, ← q305] at LRx
  obtain ⟨L1, L2⟩ := LRx
  rw [en1, ← hx]
  refine wt_H_gd (fun _ => wt_H_gd (fun _ => wt_H_if (fun y => ?_) (fun y => ?_)))
  · exact SKIP (fun _ => by rw [← L1, y, wt_lm1])
  have y' : wu_pr s z W m o dd x ≠ -1 := fun h => y (wt_eqI (by rw [L1, h, wt_lm1]))
  have wyb := wu_wy_bd R dd (by omega) x
  have c2b := wu_cp_bd (a := wu_wy s W m o dd x) wyb.1
  have c1b := wu_cp_bd snn
  have ea := wt_addE (x := wt_ga v.2.2 (305 + i) w) (y := wt_ga v.2.2 (305 + (i + 1)) x) (by omega) (by omega)
  have ADD : ∀ y0 : Int32, y0.toInt = wu_bs (fun x => wu_pr s z W m o dd x) Pv (x + 1) → wt_H (wp_md_laysRests_B185 n x1 u.1 p.1 v.2.1 K K2 K3 y0 v.2.2) (fun q => wt_fr (fun _ _ => False) (fun i => 292 ≤ i ∧ i < 317) z q ∧ ∀ i, i < m → ∀ w, w < W → wu_LR s z q W m o i w) := fun y0 hy0 => by
    unfold wp_md_laysRests_B185 wp_md_laysRests_B246 wp_md_laysRests_B247
    rw [← hi, ← hww, en1, ← hx]
    have PUT : ∀ y2 : Int32, y2.toInt = wu_cp (wt_sum (fun x => if Pv x = true then wu_wy s W m o dd x else 0) (x + 1)) → wt_H (K3 (y0, (v.2.1 + (1 : Int32)), wt_sa v.2.2 (305 + i) w y2)) (fun q => wt_fr (fun _ _ => False) (fun i => 292 ≤ i ∧ i < 317) z q ∧ ∀ i, i < m → ∀ w, w < W → wu_LR s z q W m o i w) := fun y2 hy2 => by
      obtain ⟨s3, ε3⟩ : ∃ q : wt_St, q = wt_sa v.2.2 (305 + i) w y2 := ⟨_, rfl⟩
      rw [← ε3]
      refine hK3 _ ⟨⟨by show 0 ≤ (v.2.1 + (1 : Int32)).toInt; omega, by show (v.2.1 + (1 : Int32)).toInt ≤ _; omega⟩, NI rv ε3 (by omega) (by omega), fv.sa ε3 rfl, fun b hb => (wt_w_sa ε3 b hb).trans (l2 b hb), ?_, ?_⟩
      · show y0.toInt = wu_bs _ _ (Int32.toNatClampNeg (v.2.1 + (1 : Int32)))
        rw [env]
        exact hy0
      · show (wt_ga s3 (305 + i) w).toInt = wu_cp (wt_sum _ (Int32.toNatClampNeg (v.2.1 + (1 : Int32))))
        rw [env, wt_v_sa ε3]
        exact hy2
    have cadd : wu_cp (wt_sum (fun x => if Pv x = true then wu_wy s W m o dd x else 0) (x + 1)) = wu_cp ((wt_ga v.2.2 (305 + i) w).toInt + (wt_ga v.2.2 (305 + (i + 1)) x).toInt) := by
      rw [smS, if_pos Px, l4, L2, wu_cp_add snn wyb.1]
    refine wt_H_gd (fun _ => wt_H_gd (fun _ => wt_H_gd (fun _ => wt_H_gd (fun _ => wt_H_gd (fun _ => wt_H_if (fun q => ?_) (fun q => ?_))))))
    · have q' := wt_cle q
      refine wt_H_gd (fun _ => wt_H_gd (fun _ => wt_H_gd (fun _ => wt_H_gd (fun _ => wt_H_gd (fun _ => PUT _ ?_)))))
      rw [cadd, ea]
      unfold wu_cp
      rw [if_pos (by omega)]
    · have q' := wt_ncle q
      refine wt_H_gd (fun _ => PUT _ ?_)
      rw [cadd, kM]
      unfold wu_cp
      rw [if_neg (by omega)]
  have TAKE : (wu_bs (fun x => wu_pr s z W m o dd x) Pv x = -1 ∨ wu_pr s z W m o dd x < wu_bs (fun x => wu_pr s z W m o dd x) Pv x) → wt_H (wp_md_laysRests_B169 n x1 u.1 p.1 v.2.1 K K2 K3 v.2.2) (fun q => wt_fr (fun _ _ => False) (fun i => 292 ≤ i ∧ i < 317) z q ∧ ∀ i, i < m → ∀ w, w < W → wu_LR s z q W m o i w) := fun hq => by
    unfold wp_md_laysRests_B169
    rw [en1, ← hx]
    refine wt_H_gd (fun _ => wt_H_gd (fun _ => ADD _ ?_))
    rw [bsS, if_pos ⟨Px, y', hq⟩]
    exact L1
  refine wt_H_if (fun q => TAKE (Or.inl (by rw [← l3, q, wt_lm1]))) (fun q => ?_)
  have q' : v.1.toInt ≠ -1 := fun h => q (wt_eqI (by rw [h, wt_lm1]))
  refine wt_H_gd (fun _ => wt_H_gd (fun _ => wt_H_if (fun b => ?_) (fun b => ?_)))
  · have b' := wt_cle b
    refine ADD _ ?_
    rw [bsS, if_neg (fun a => by
      rcases a.2.2 with a | a
      · rw [← l3] at a
        exact q' a
      · omega)]
    exact l3
  · have b' := wt_ncle b
    exact TAKE (Or.inr (by omega))
end WTQ1
-- 96z.least.lean.txt
section WTQ2
/-! least on both sides -/
/-- the first of those that are allowed with the least price, none as NONE -/
def wu_am (f : Nat → Int) (P : Nat → Bool) : Nat → Int
  | 0 => -1
  | n + 1 => if P n = true ∧ f n ≠ -1 ∧ (wu_am f P n = -1 ∨ f n < f (wu_am f P n).toNat) then (n : Int) else wu_am f P n
theorem wu_am_sp {f : Nat → Int} {P : Nat → Bool} : ∀ n : Nat, (wu_am f P n = -1 ∧ ∀ v, v < n → P v = true → f v = -1) ∨ ∃ v, v < n ∧ P v = true ∧ f v ≠ -1 ∧ wu_am f P n = (v : Int) ∧ ∀ u, u < n → P u = true → f u ≠ -1 → f v ≤ f u ∧ (u < v → f v < f u) := by
  intro n
  induction n with
  | zero => exact Or.inl ⟨rfl, fun v hv => absurd hv (by omega)⟩
  | succ n ih =>
    by_cases c : P n = true ∧ f n ≠ -1 ∧ (wu_am f P n = -1 ∨ f n < f (wu_am f P n).toNat)
    · have e : wu_am f P (n + 1) = (n : Int) := if_pos c
      refine Or.inr ⟨n, by omega, c.1, c.2.1, e, fun u hu hp hf => ?_⟩
      by_cases x : u = n
      · rw [x]
        exact ⟨Int.le_refl _, fun h => absurd h (by omega)⟩
      · rcases ih with ⟨a, b⟩ | ⟨v, v1, v2, v3, v4, v5⟩
        · exact absurd (b u (by omega) hp) hf
        · have h := v5 u (by omega) hp hf
          have k := c.2.2
          rw [v4] at k
          rcases k with k | k
          · omega
          · have k' : f n < f v := k
            exact ⟨by omega, fun _ => by omega⟩
    · have e : wu_am f P (n + 1) = wu_am f P n := if_neg c
      rw [e]
      rcases ih with ⟨a, b⟩ | ⟨v, v1, v2, v3, v4, v5⟩
      · refine Or.inl ⟨a, fun v hv hp => ?_⟩
        by_cases x : v = n
        · rw [x] at hp ⊢
          by_cases y : f n = -1
          · exact y
          · exact absurd ⟨hp, y, Or.inl a⟩ c
        · exact b v (by omega) hp
      · refine Or.inr ⟨v, by omega, v2, v3, v4, fun u hu hp hf => ?_⟩
        by_cases x : u = n
        · rw [x] at hp hf ⊢
          refine ⟨?_, fun h => by omega⟩
          by_cases y : f n < f v
          · exact absurd ⟨hp, hf, Or.inr (by rw [v4]; exact y)⟩ c
          · omega
        · exact v5 u (by omega) hp hf
/-- it is one and the same, whatever the walk -/
theorem wu_am_u {f g : Nat → Int} {P Q : Nat → Bool} {N M F : Nat} (h1 : ∀ v, v < N → P v = true → F ≤ v ∧ v < F + M ∧ Q (v - F) = true) (h2 : ∀ k, k < M → Q k = true → F + k < N ∧ P (F + k) = true) (h3 : ∀ k, k < M → g k = f (F + k)) : (wu_am f P N = -1 ∧ wu_am g Q M = -1) ∨ ∃ k, k < M ∧ Q k = true ∧ g k ≠ -1 ∧ wu_am g Q M = (k : Int) ∧ wu_am f P N = ((F + k : Nat) : Int) := by
  rcases wu_am_sp (f := f) (P := P) N with ⟨a, b⟩ | ⟨v, v1, v2, v3, v4, v5⟩
  · rcases wu_am_sp (f := g) (P := Q) M with ⟨c, d⟩ | ⟨k, k1, k2, k3, k4, k5⟩
    · exact Or.inl ⟨a, c⟩
    · obtain ⟨q1, q2⟩ := h2 k k1 k2
      rw [h3 k k1] at k3
      exact absurd (b _ q1 q2) k3
  · obtain ⟨p1, p2, p3⟩ := h1 v v1 v2
    have ev : F + (v - F) = v := by omega
    rcases wu_am_sp (f := g) (P := Q) M with ⟨c, d⟩ | ⟨k, k1, k2, k3, k4, k5⟩
    · have := d (v - F) (by omega) p3
      rw [h3 _ (by omega), ev] at this
      exact absurd this v3
    · obtain ⟨q1, q2⟩ := h2 k k1 k2
      have k3' := k3
      rw [h3 k k1] at k3'
      have x := v5 (F + k) q1 q2 k3'
      have y := k5 (v - F) (by omega) p3 (by rw [h3 _ (by omega), ev]; exact v3)
      rw [h3 k k1, h3 (v - F) (by omega), ev] at y
      refine Or.inr ⟨k, k1, k2, k3, k4, ?_⟩
      rw [v4]
      have : v = F + k := by
        rcases Nat.lt_trichotomy v (F + k) with c | c | c
        · have := y.2 (by omega)
          omega
        · exact c
        · have := x.2 c
          omega
      rw [this]
set_option maxHeartbeats 1000000 in
theorem wh_cheapest (n : Nat) (hn : 4294967297 < n) {s z : wt_St} {t m W G i : Nat} {o : Nat → Nat} {x1 x2 x3 : Int32} {P : Nat → Bool} {y : Nat → Int} (R : wu_RW s z t m W G o) (h1 : x1.toInt = (t : Int)) (h2 : x2.toInt = (i : Int) - 1) (hi : i < m) (hy : ∀ k, k < wu_Z s (o i) → (wt_ga s 82 (5 * i + k)).toInt = y (wu_F s (o i) + k) ∧ (y (wu_F s (o i) + k) = -1 ∨ (0 ≤ y (wu_F s (o i) + k) ∧ y (wu_F s (o i) + k) < 1000000))) (mf : ∀ (v : Nat) (u : Int32), v < W → u.toInt = (v : Int) → wt_H (wp_rw_mayFollow n x3 u s) (fun q => q.2 = s ∧ ((q.1 = 1 ∧ P v = true) ∨ (q.1 = 0 ∧ P v = false)))) : wt_H (wp_rw_cheapestBehind n x1 x2 x3 s) (fun q => q.2 = s ∧ ((q.1.toInt = -1 ∧ wu_am (fun k => y (wu_F s (o i) + k)) (fun k => P (wu_F s (o i) + k)) (wu_Z s (o i)) = -1) ∨ ∃ k, k < wu_Z s (o i) ∧ q.1.toInt = ((wu_F s (o i) + k : Nat) : Int) ∧ wu_am (fun k => y (wu_F s (o i) + k)) (fun k => P (wu_F s (o i) + k)) (wu_Z s (o i)) = (k : Int))) := by
  have k0 : (0 : Int32).toInt = 0 := by decide
  have kM : (1000000 : Int32).toInt = 1000000 := by decide
  have R' := R
  obtain ⟨⟨a1, -, a3, a4, a5⟩, -, a8, -, gs, -⟩ := R'
  have hw := (a8 i hi).1
  obtain ⟨-, -, ⟨z1, z2, z3⟩, -⟩ := wu_grp gs a5 a4 hw
  have e2 := wt_i1 (c := x2) (by omega)
  unfold wp_rw_cheapestBehind
  refine wt_H_bh (wh_wordAtR n hn R h1 (i := i) (by omega) hi) (fun q1 e1 => ?_)
  rw [e1.1]
  refine wt_H_it (fun u : Int32 × Int32 × Int32 × wt_St => u.2.2.2 = s ∧ (0 ≤ u.2.2.1.toInt ∧ u.2.2.1.toInt ≤ (wu_Z s (o i) : Int)) ∧ ((u.1.toInt = -1 ∧ u.2.1.toInt = 1000000 ∧ wu_am (fun k => y (wu_F s (o i) + k)) (fun k => P (wu_F s (o i) + k)) (Int32.toNatClampNeg u.2.2.1) = -1) ∨ ∃ k : Nat, (k : Int) < u.2.2.1.toInt ∧ u.1.toInt = ((wu_F s (o i) + k : Nat) : Int) ∧ u.2.1.toInt = y (wu_F s (o i) + k) ∧ wu_am (fun k => y (wu_F s (o i) + k)) (fun k => P (wu_F s (o i) + k)) (Int32.toNatClampNeg u.2.2.1) = (k : Int))) (fun K u I hK => ?_) n _ ⟨rfl, ⟨by show 0 ≤ ((0 : Int32)).toInt; omega, by show ((0 : Int32)).toInt ≤ _; omega⟩, Or.inl ⟨wt_lm1, kM, by show wu_am _ _ (Int32.toNatClampNeg (0 : Int32)) = -1; rw [wt_tn0]; rfl⟩⟩
  obtain ⟨i0, ⟨i1, i2⟩, i3⟩ := I
  have eu := wt_tnI i1
  unfold wp_rw_cheapestBehind_B23
  rw [i0]
  refine wt_H_bh (wh_members n hn gs a5 a4 hw e1.2) (fun q4 e4 => ?_)
  rw [e4.1]
  refine wt_H_if (fun c => ?_) (fun c => ?_)
  · have c' := wt_cle c
    have eZ : Int32.toNatClampNeg u.2.2.1 = wu_Z s (o i) := by omega
    rw [eZ] at i3
    refine wt_H_some ⟨rfl, ?_⟩
    rcases i3 with ⟨a, -, b⟩ | ⟨k, b1, b2, -, b4⟩
    · exact Or.inl ⟨a, b⟩
    · exact Or.inr ⟨k, by omega, b2, b4⟩
  have c' := wt_ncle c
  have ei := wt_i1 (c := u.2.2.1) (by omega)
  obtain ⟨k, hk⟩ : ∃ k : Nat, k = Int32.toNatClampNeg u.2.2.1 := ⟨_, rfl⟩
  have en : Int32.toNatClampNeg (u.2.2.1 + (1 : Int32)) = k + 1 := by have := wt_tnI (x := u.2.2.1 + (1 : Int32)) (by omega); omega
  rw [← hk] at eu i3
  obtain ⟨y1, y2⟩ := hy k (by omega)
  have amS : wu_am (fun k => y (wu_F s (o i) + k)) (fun k => P (wu_F s (o i) + k)) (k + 1) = if P (wu_F s (o i) + k) = true ∧ y (wu_F s (o i) + k) ≠ -1 ∧ (wu_am (fun k => y (wu_F s (o i) + k)) (fun k => P (wu_F s (o i) + k)) k = -1 ∨ y (wu_F s (o i) + k) < y (wu_F s (o i) + (wu_am (fun k => y (wu_F s (o i) + k)) (fun k => P (wu_F s (o i) + k)) k).toNat)) then (k : Int) else wu_am (fun k => y (wu_F s (o i) + k)) (fun k => P (wu_F s (o i) + k)) k := rfl
  unfold wp_rw_cheapestBehind_B94
  have KEEP : ¬ (P (wu_F s (o i) + k) = true ∧ y (wu_F s (o i) + k) ≠ -1 ∧ (wu_am (fun k => y (wu_F s (o i) + k)) (fun k => P (wu_F s (o i) + k)) k = -1 ∨ y (wu_F s (o i) + k) < y (wu_F s (o i) + (wu_am (fun k => y (wu_F s (o i) + k)) (fun k => P (wu_F s (o i) + k)) k).toNat))) → wt_H (K (u.1, u.2.1, (u.2.2.1 + (1 : Int32)), s)) (fun q => q.2 = s ∧ ((q.1.toInt = -1 ∧ wu_am (fun k => y (wu_F s (o i) + k)) (fun k => P (wu_F s (o i) + k)) (wu_Z s (o i)) = -1) ∨ ∃ k, k < wu_Z s (o i) ∧ q.1.toInt = ((wu_F s (o i) + k : Nat) : Int) ∧ wu_am (fun k => y (wu_F s (o i) + k)) (fun k => P (wu_F s (o i) + k)) (wu_Z s (o i)) = (k : Int))) := fun h => by
    refine hK _ ⟨rfl, ⟨by show 0 ≤ (u.2.2.1 + (1 : Int32)).toInt; omega, by show (u.2.2.1 + (1 : Int32)).toInt ≤ _; omega⟩, ?_⟩
    show (u.1.toInt = -1 ∧ u.2.1.toInt = 1000000 ∧ wu_am _ _ (Int32.toNatClampNeg (u.2.2.1 + (1 : Int32))) = -1) ∨ ∃ k : Nat, (k : Int) < (u.2.2.1 + (1 : Int32)).toInt ∧ u.1.toInt = ((wu_F s (o i) + k : Nat) : Int) ∧ u.2.1.toInt = y (wu_F s (o i) + k) ∧ wu_am _ _ (Int32.toNatClampNeg (u.2.2.1 + (1 : Int32))) = (k : Int)
    rw [en, amS, if_neg h]
    rcases i3 with i3 | ⟨k', b1, b2, b3, b4⟩
    · exact Or.inl i3
    · exact Or.inr ⟨k', by omega, b2, b3, b4⟩
  refine wt_H_bh (wh_first n hn gs a5 a4 hw e1.2) (fun q5 e5 => ?_)
  rw [e5.1]
  have ea := wt_addE (x := q5.1) (y := u.2.2.1) (by omega) (by omega)
  refine wt_H_bh (wh_sumAt n hn R h1 (i := i) (k := k) (by omega) hi (by omega) (by omega)) (fun q6 e6 => ?_)
  subst e6
  dsimp only
  refine wt_H_if (fun d => ?_) (fun d => ?_)
  · exact KEEP (fun h => h.2.1 (by rw [← y1, d, wt_lm1]))
  have d' : y (wu_F s (o i) + k) ≠ -1 := fun h => d (wt_eqI (by rw [y1, h, wt_lm1]))
  refine wt_H_if (fun g => ?_) (fun g => ?_)
  · have g' := wt_cle g
    refine KEEP (fun h => ?_)
    rcases i3 with ⟨-, b, -⟩ | ⟨k', b1, b2, b3, b4⟩
    · omega
    · rcases h.2.2 with q | q
      · omega
      · rw [b4] at q
        have q' : y (wu_F s (o i) + k) < y (wu_F s (o i) + k') := q
        omega
  have g' := wt_ncle g
  refine wt_H_bh (mf (wu_F s (o i) + k) (q5.1 + u.2.2.1) (by omega) (by omega)) (fun q8 e8 => ?_)
  obtain ⟨e8, e9⟩ := e8
  rw [e8]
  rcases e9 with ⟨p1, p2⟩ | ⟨p1, p2⟩
  · rw [if_neg (show ¬ q8.1 = 0 by rw [p1]; decide)]
    refine hK _ ⟨rfl, ⟨by show 0 ≤ (u.2.2.1 + (1 : Int32)).toInt; omega, by show (u.2.2.1 + (1 : Int32)).toInt ≤ _; omega⟩, Or.inr ⟨k, by show (k : Int) < (u.2.2.1 + (1 : Int32)).toInt; omega, by show (q5.1 + u.2.2.1).toInt = _; omega, y1, ?_⟩⟩
    show wu_am _ _ (Int32.toNatClampNeg (u.2.2.1 + (1 : Int32))) = (k : Int)
    rw [en, amS]
    refine if_pos ⟨p2, d', ?_⟩
    rcases i3 with ⟨-, -, b⟩ | ⟨k', b1, b2, b3, b4⟩
    · exact Or.inl b
    · rw [b4]
      refine Or.inr ?_
      show y (wu_F s (o i) + k) < y (wu_F s (o i) + k')
      omega
  · rw [if_pos (show q8.1 = 0 from p1)]
    exact KEEP (fun h => by rw [p2] at h; exact absurd h.1 (by decide))
theorem wu_bs_am {f : Nat → Int} {P : Nat → Bool} : ∀ n : Nat, (wu_am f P n = -1 ∧ wu_bs f P n = -1) ∨ ∃ v : Nat, v < n ∧ P v = true ∧ f v ≠ -1 ∧ wu_am f P n = (v : Int) ∧ wu_bs f P n = f v := by
  intro n
  induction n with
  | zero => exact Or.inl ⟨rfl, rfl⟩
  | succ n ih =>
    have ea : wu_am f P (n + 1) = if P n = true ∧ f n ≠ -1 ∧ (wu_am f P n = -1 ∨ f n < f (wu_am f P n).toNat) then (n : Int) else wu_am f P n := rfl
    have eb : wu_bs f P (n + 1) = if P n = true ∧ f n ≠ -1 ∧ (wu_bs f P n = -1 ∨ f n < wu_bs f P n) then f n else wu_bs f P n := rfl
    rcases ih with ⟨a, b⟩ | ⟨v, v1, v2, v3, v4, v5⟩
    · rw [ea, eb, a, b]
      by_cases c : P n = true ∧ f n ≠ -1
      · rw [if_pos ⟨c.1, c.2, Or.inl rfl⟩, if_pos ⟨c.1, c.2, Or.inl rfl⟩]
        exact Or.inr ⟨n, by omega, c.1, c.2, rfl, rfl⟩
      · rw [if_neg (fun h => c ⟨h.1, h.2.1⟩), if_neg (fun h => c ⟨h.1, h.2.1⟩)]
        exact Or.inl ⟨rfl, rfl⟩
    · rw [ea, eb, v4, v5]
      show (_ ∨ _)
      have tn : ((v : Int)).toNat = v := rfl
      rw [tn]
      by_cases c : P n = true ∧ f n ≠ -1 ∧ f n < f v
      · rw [if_pos ⟨c.1, c.2.1, Or.inr c.2.2⟩, if_pos ⟨c.1, c.2.1, Or.inr c.2.2⟩]
        exact Or.inr ⟨n, by omega, c.1, c.2.1, rfl, rfl⟩
      · rw [if_neg (fun h => by
          rcases h.2.2 with q | q
          · omega
          · exact c ⟨h.1, h.2.1, q⟩), if_neg (fun h => by
          rcases h.2.2 with q | q
          · exact v3 q
          · exact c ⟨h.1, h.2.1, q⟩)]
        exact Or.inr ⟨v, by omega, v2, v3, rfl, rfl⟩
/-- over the group, or over all words -/
theorem wu_am_grp {s : wt_St} {W G w : Nat} (gs : wt_gs 20 W G s) (hG : G ≤ 20) (hW : W ≤ 60) (hw : w < W) (P : Nat → Bool) (f : Nat → Int) : (wu_am f (fun v => wu_of s w v && P v) W = -1 ∧ wu_am (fun k => f (wu_F s w + k)) (fun k => P (wu_F s w + k)) (wu_Z s w) = -1) ∨ ∃ k, k < wu_Z s w ∧ P (wu_F s w + k) = true ∧ f (wu_F s w + k) ≠ -1 ∧ wu_am (fun k => f (wu_F s w + k)) (fun k => P (wu_F s w + k)) (wu_Z s w) = (k : Int) ∧ wu_am f (fun v => wu_of s w v && P v) W = ((wu_F s w + k : Nat) : Int) := by
  obtain ⟨-, -, ⟨z1, z2, z3⟩, z4⟩ := wu_grp gs hG hW hw
  refine wu_am_u (fun v hv hp => ?_) (fun k hk hq => ?_) (fun k _ => rfl)
  · have hp' : (wu_of s w v && P v) = true := hp
    rw [Bool.and_eq_true] at hp'
    have := (z4 v hv).mp hp'.1
    refine ⟨this.1, this.2, ?_⟩
    show P (wu_F s w + (v - wu_F s w)) = true
    rw [show wu_F s w + (v - wu_F s w) = v by omega]
    exact hp'.2
  · refine ⟨by omega, ?_⟩
    show (wu_of s w (wu_F s w + k) && P (wu_F s w + k)) = true
    rw [(z4 (wu_F s w + k) (by omega)).mpr (by omega)]
    exact hq
theorem wt_HH_lf {α α' β : Type} {p : Option α} {p' : Option β} {f : α → Option α'} {Q : α' → β → Prop} (h : wt_HH p p' (fun a b => wt_H (f a) (fun c => Q c b))) : wt_HH (p.bind f) p' Q := by
  cases p with
  | none => exact wt_HH_nl
  | some a => exact fun c b e e' => h a b rfl e' c e
set_option maxHeartbeats 2000000 in
theorem wh_leastFrom (n : Nat) (hn : 4294967297 < n) {s σ z : wt_St} {t m W G i k : Nat} {o : Nat → Nat} {x1 x2 x3 : Int32} (R0 : wu_RW s z t m W G o) (R : wu_RW σ z t m W G o) (r : wt_RI z) (eq : (∀ w, wu_F σ w = wu_F s w) ∧ (∀ w, wu_Z σ w = wu_Z s w) ∧ (∀ w v, wu_of σ w v = wu_of s w v) ∧ ∀ w v, wu_mf σ w v = wu_mf s w v) (h1 : x1.toInt = (t : Int)) (h2 : x2.toInt = (i : Int)) (hi : i < m) (hk : k < wu_Z s (o i)) (h3 : x3.toInt = ((wu_F s (o i) + k : Nat) : Int)) (hy : i + 1 < m → ∀ k, k < wu_Z s (o (i + 1)) → (wt_ga σ 82 (5 * (i + 1) + k)).toInt = wu_pr s z W m o (m - 1 - (i + 1)) (wu_F s (o (i + 1)) + k)) : wt_H (wp_rw_leastFrom n x1 x2 x3 σ) (fun q => q.2 = σ ∧ q.1.toInt = wu_pr s z W m o (m - 1 - i) (wu_F s (o i) + k)) := by
  obtain ⟨eF, eZ, eO, eM⟩ := eq
  have R' := R0
  obtain ⟨⟨a1, a2, a3, a4, a5⟩, -, a8, -, gs, -⟩ := R'
  have hw := (a8 i hi).1
  obtain ⟨-, -, ⟨z1, z2, z3⟩, -⟩ := wu_grp gs a5 a4 hw
  have e2 := wt_i1 (c := x2) (by omega)
  have hkW : wu_F s (o i) + k < W := by omega
  unfold wp_rw_leastFrom
  refine wt_H_bh (wh_lengthOf n hn h1 a1 R.2.1.1) (fun q1 e1 => ?_)
  rw [e1.1]
  refine wt_H_if (fun c => ?_) (fun c => ?_)
  · have c' := wt_clt c
    have g : i + 1 < m := by omega
    have hw1 := (a8 (i + 1) g).1
    obtain ⟨-, -, ⟨y1, y2, y3⟩, -⟩ := wu_grp gs a5 a4 hw1
    obtain ⟨dd, hdd⟩ : ∃ dd : Nat, dd = m - 1 - (i + 1) := ⟨_, rfl⟩
    have hyg := hy g
    rw [← hdd] at hyg
    have SP : ∀ k', k' < wu_Z s (o (i + 1)) → wu_pr s z W m o dd (wu_F s (o (i + 1)) + k') = -1 ∨ (0 ≤ wu_pr s z W m o dd (wu_F s (o (i + 1)) + k') ∧ wu_pr s z W m o dd (wu_F s (o (i + 1)) + k') ≤ 891 * ((dd : Int) + 1)) := fun k' hk' => (wu_pr_sp R0 r dd (by omega) (wu_F s (o (i + 1)) + k') (by omega)).1
    have CH := wh_cheapest n hn R (x1 := x1) (x2 := x2) (x3 := x3) (i := i + 1) (P := fun v => wu_mf s (wu_F s (o i) + k) v) (y := fun v => wu_pr s z W m o dd v) h1 (by omega) g (fun k' hk' => by
      rw [eZ] at hk'
      rw [eF]
      refine ⟨hyg k' hk', ?_⟩
      rcases (wu_pr_sp R0 r dd (by omega) (wu_F s (o (i + 1)) + k') (by omega)).1 with q | q
      · exact Or.inl q
      · exact Or.inr ⟨q.1, by omega⟩) (fun v u hv hu => by
      have := wh_mayC n hn R (x := x3) (y := u) h3 hu hkW hv
      rw [eM] at this
      exact this)
    rw [eF, eZ] at CH
    have prS : wu_pr s z W m o (m - 1 - i) (wu_F s (o i) + k) = if wu_bs (fun v => wu_pr s z W m o dd v) (fun v => wu_of s (o (i + 1)) v && wu_mf s (wu_F s (o i) + k) v) W = -1 then -1 else wu_bs (fun v => wu_pr s z W m o dd v) (fun v => wu_of s (o (i + 1)) v && wu_mf s (wu_F s (o i) + k) v) W + wu_pw z (wu_F s (o i) + k) := by
      rw [show m - 1 - i = dd + 1 by omega]
      show (if wu_bs (fun v => wu_pr s z W m o dd v) (fun v => wu_of s (o (m - 1 - dd)) v && wu_mf s (wu_F s (o i) + k) v) W = -1 then -1 else wu_bs (fun v => wu_pr s z W m o dd v) (fun v => wu_of s (o (m - 1 - dd)) v && wu_mf s (wu_F s (o i) + k) v) W + wu_pw z (wu_F s (o i) + k)) = _
      rw [show m - 1 - dd = i + 1 by omega]
    have grp := wu_am_grp gs a5 a4 hw1 (fun v => wu_mf s (wu_F s (o i) + k) v) (fun v => wu_pr s z W m o dd v)
    have bsam := wu_bs_am (f := fun v => wu_pr s z W m o dd v) (P := fun v => wu_of s (o (i + 1)) v && wu_mf s (wu_F s (o i) + k) v) W
    refine wt_H_bh CH (fun q3 e3 => ?_)
    obtain ⟨e3, e4⟩ := e3
    rw [e3]
    rcases e4 with ⟨f1, f2⟩ | ⟨k', f1, f2, f3⟩
    · rw [if_pos (show q3.1 = (-1 : Int32) from wt_eqI (by rw [f1, wt_lm1]))]
      refine wt_H_some ⟨rfl, ?_⟩
      show ((-1 : Int32)).toInt = _
      rw [wt_lm1, prS]
      rcases grp with ⟨g1, -⟩ | ⟨k2, -, -, -, g2, -⟩
      · rcases bsam with ⟨-, b2⟩ | ⟨v, -, -, -, b4, -⟩
        · rw [if_pos b2]
        · have : wu_am (fun v => wu_pr s z W m o dd v) (fun v => wu_of s (o (i + 1)) v && (fun v => wu_mf s (wu_F s (o i) + k) v) v) W = (v : Int) := b4
          omega
      · have g2' : wu_am (fun k_1 => wu_pr s z W m o dd (wu_F s (o (i + 1)) + k_1)) (fun k_1 => wu_mf s (wu_F s (o i) + k) (wu_F s (o (i + 1)) + k_1)) (wu_Z s (o (i + 1))) = (k2 : Int) := g2
        omega
    · rw [if_neg (show ¬ q3.1 = (-1 : Int32) from fun h => by rw [h, wt_lm1] at f2; omega)]
      refine wt_H_bh (wh_priceC n hn R r h3 hkW) (fun q5 e5 => ?_)
      obtain ⟨e5, v5⟩ := e5
      rw [e5]
      refine wt_H_bh (wh_sumAt n hn R h1 (x2 := x2 + (1 : Int32)) (i := i + 1) (k := k') (by omega) g (by rw [eF]; exact f2) (by rw [eZ]; exact f1)) (fun q6 e6 => ?_)
      subst e6
      have v6 := hyg k' f1
      refine wt_H_some ⟨rfl, ?_⟩
      show (q5.1 + wt_ga σ 82 (5 * (i + 1) + k')).toInt = _
      have pb := wu_pw_bd R0 r hkW
      rcases grp with ⟨-, g2⟩ | ⟨k2, g1, g2, g3, g4, g5⟩
      · have g2' : wu_am (fun k_1 => wu_pr s z W m o dd (wu_F s (o (i + 1)) + k_1)) (fun k_1 => wu_mf s (wu_F s (o i) + k) (wu_F s (o (i + 1)) + k_1)) (wu_Z s (o (i + 1))) = -1 := g2
        omega
      · have g4' : wu_am (fun k_1 => wu_pr s z W m o dd (wu_F s (o (i + 1)) + k_1)) (fun k_1 => wu_mf s (wu_F s (o i) + k) (wu_F s (o (i + 1)) + k_1)) (wu_Z s (o (i + 1))) = (k2 : Int) := g4
        have kk : k2 = k' := by omega
        rw [kk] at g3 g5
        have g3' : wu_pr s z W m o dd (wu_F s (o (i + 1)) + k') ≠ -1 := g3
        have sp : 0 ≤ wu_pr s z W m o dd (wu_F s (o (i + 1)) + k') ∧ wu_pr s z W m o dd (wu_F s (o (i + 1)) + k') ≤ 891 * ((dd : Int) + 1) := by
          rcases SP k' f1 with q | q
          · exact absurd q g3'
          · exact q
        have ea := wt_addE (x := q5.1) (y := wt_ga σ 82 (5 * (i + 1) + k')) (by omega) (by omega)
        rcases bsam with ⟨b1, -⟩ | ⟨v, b1, b2, b3, b4, b5⟩
        · have b1' : wu_am (fun v => wu_pr s z W m o dd v) (fun v => wu_of s (o (i + 1)) v && (fun v => wu_mf s (wu_F s (o i) + k) v) v) W = -1 := b1
          omega
        · have b4' : wu_am (fun v => wu_pr s z W m o dd v) (fun v => wu_of s (o (i + 1)) v && (fun v => wu_mf s (wu_F s (o i) + k) v) v) W = (v : Int) := b4
          have vv : v = wu_F s (o (i + 1)) + k' := by omega
          have b5' : wu_bs (fun v => wu_pr s z W m o dd v) (fun v => wu_of s (o (i + 1)) v && wu_mf s (wu_F s (o i) + k) v) W = wu_pr s z W m o dd (wu_F s (o (i + 1)) + k') := by rw [← vv]; exact b5
          rw [prS, b5', if_neg g3', ea, v5, v6]
          omega
  · have c' := wt_ncl c
    refine wt_H_bh (wh_priceC n hn R r h3 hkW) (fun q7 e7 => ?_)
    refine wt_H_some ⟨e7.1, ?_⟩
    show q7.1.toInt = _
    rw [e7.2, show m - 1 - i = 0 by omega]
    rfl
end WTQ2
-- 96zb.fit.lean.txt
section WTQ3
/-! fitting: tools -/
theorem wt_H_rec {α ρ : Type} {body : (α → Option ρ) → α → Option ρ} (I : α → Prop) (Q : α → ρ → Prop) (h : ∀ (R : α → Option ρ) (s : α), I s → (∀ t, I t → wt_H (R t) (Q t)) → wt_H (body R s) (Q s)) : ∀ (n : Nat) (s : α), I s → wt_H (wt_it body n s) (Q s) := by
  intro n
  induction n with
  | zero => intro s _; exact wt_H_none
  | succ n ih => intro s hs; exact h _ s hs ih
theorem wt_HH_rec {α α' ρ ρ' : Type} {body : (α → Option ρ) → α → Option ρ} {body' : (α' → Option ρ') → α' → Option ρ'} (I : α → α' → Prop) (Q : α → α' → ρ → ρ' → Prop) (h : ∀ (R : α → Option ρ) (m' : Nat) (s : α) (s' : α'), I s s' → (∀ t t', I t t' → wt_HH (R t) (wt_it body' m' t') (Q t t')) → wt_HH (body R s) (body' (wt_it body' m') s') (Q s s')) : ∀ (n n' : Nat) (s : α) (s' : α'), I s s' → wt_HH (wt_it body n s) (wt_it body' n' s') (Q s s') := by
  intro n
  induction n with
  | zero => intro n' s s' _; exact wt_HH_nl
  | succ n ih =>
    intro n' s s' hs
    cases n' with
    | zero => exact wt_HH_nr
    | succ n' => exact h _ n' s s' hs (fun t t' ht => ih n' t t' ht)
theorem wt_HH_ita {α α' ρ ρ' : Type} {body : (α → Option ρ) → α → Option ρ} {body' : (α' → Option ρ') → α' → Option ρ'} {Q : ρ → ρ' → Prop} (I : α → α' → Prop) (h : ∀ (K' : α' → Option ρ') (m : Nat) (s : α) (s' : α'), I s s' → (∀ m' t t', I t t' → wt_HH (wt_it body m' t) (K' t') Q) → wt_HH (wt_it body m s) (body' K' s') Q) : ∀ (n' m : Nat) (s : α) (s' : α'), I s s' → wt_HH (wt_it body m s) (wt_it body' n' s') Q := by
  intro n'
  induction n' with
  | zero => intro m s s' _; exact wt_HH_nr
  | succ n' ih => intro m s s' hs; exact h _ m s s' hs (fun m' t t' ht => ih m' t t' ht)
theorem wt_HH_sl {α ρ β : Type} {body : (α → Option ρ) → α → Option ρ} {p' : Option β} {Q : ρ → β → Prop} {m : Nat} {s : α} (h : ∀ m', wt_HH (body (wt_it body m') s) p' Q) : wt_HH (wt_it body m s) p' Q := by
  cases m with
  | zero => exact wt_HH_nl
  | succ m => exact h m
set_option maxHeartbeats 1000000 in
theorem wh_spend (n : Nat) (hn : 4294967297 < n) {s z : wt_St} {t m W G w : Nat} {o : Nat → Nat} {x1 x2 : Int32} (R : wu_RW s z t m W G o) (hx : x1.toInt = (w : Int)) (hw : w < W) (h2 : x2.toInt = 1 ∨ x2.toInt = -1) (hb : ∀ l, l < 26 → -200 ≤ (wt_ga s 83 l).toInt ∧ (wt_ga s 83 l).toInt ≤ 200) : wt_H (wp_rw_spend n x1 x2 s) (fun q => wt_fr (fun _ _ => False) (fun i => i = 83) s q.2 ∧ (∀ l : Nat, l < 26 → (wt_ga q.2 83 l).toInt = (wt_ga s 83 l).toInt - x2.toInt * wt_nw z w (l : Int)) ∧ (x2.toInt = 1 → (∀ l : Nat, l < 26 → 0 ≤ (wt_ga s 83 l).toInt) → (q.1 = 1 ∧ ∀ l : Nat, l < 26 → 0 ≤ (wt_ga q.2 83 l).toInt) ∨ (q.1 = 0 ∧ ∃ l : Nat, l < 26 ∧ (wt_ga q.2 83 l).toInt < 0))) := by
  have k0 : (0 : Int32).toInt = 0 := by decide
  have R' := R
  obtain ⟨⟨-, -, -, h4, -⟩, -, -, tt, -⟩ := R'
  obtain ⟨a2, -, -, b2, -, e2⟩ := tt w hw
  have a2' : wt_ga s 22 w = wt_ga z 126 w := a2
  have b2' : 1 ≤ (wt_ga s 22 w).toInt ∧ (wt_ga s 22 w).toInt ≤ 9 := b2
  have el := wt_tnI (x := wt_ga s 22 w) (by omega)
  unfold wp_rw_spend
  refine wt_H_it (fun u : Int32 × Int32 × wt_St => (0 ≤ u.2.1.toInt ∧ u.2.1.toInt ≤ (wt_ga s 22 w).toInt) ∧ wt_fr (fun _ _ => False) (fun i => i = 83) s u.2.2 ∧ (∀ l : Nat, l < 26 → (wt_ga u.2.2 83 l).toInt = (wt_ga s 83 l).toInt - x2.toInt * wt_ct (fun k => (wt_ga z (193 + w) k).toInt) (l : Int) (Int32.toNatClampNeg u.2.1)) ∧ (x2.toInt = 1 → (∀ l : Nat, l < 26 → 0 ≤ (wt_ga s 83 l).toInt) → (u.1 = 1 ∧ ∀ l : Nat, l < 26 → 0 ≤ (wt_ga u.2.2 83 l).toInt) ∨ (u.1 = 0 ∧ ∃ l : Nat, l < 26 ∧ (wt_ga u.2.2 83 l).toInt < 0))) (fun K u I hK => ?_) n _ ⟨⟨by show 0 ≤ ((0 : Int32)).toInt; omega, by show ((0 : Int32)).toInt ≤ _; omega⟩, wt_fr.rf, fun l hl => by
    show (wt_ga s 83 l).toInt = (wt_ga s 83 l).toInt - x2.toInt * wt_ct _ (l : Int) (Int32.toNatClampNeg (0 : Int32))
    rw [wt_tn0]
    show _ = _ - x2.toInt * 0
    rw [Int.mul_zero]
    omega, fun _ h => Or.inl ⟨rfl, h⟩⟩
  obtain ⟨⟨i0, i1⟩, fu, i2, i3⟩ := I
  have eu := wt_tnI i0
  unfold wp_rw_spend_B5 wp_rw_spend_B70 wp_rw_spend_B71
  refine wt_H_bh (wh_look n hn (k := w) hx (by rw [show wt_ln 22 = 60 from by decide]; omega)) (fun q1 e1 => ?_)
  subst e1
  dsimp only
  rw [fu.2 22 (by decide)]
  refine wt_H_if (fun c => ?_) (fun c => ?_)
  · have c' := wt_cle c
    have en : Int32.toNatClampNeg u.2.1 = Int32.toNatClampNeg (wt_ga z 126 w) := by
      have := wt_tnI (x := wt_ga z 126 w) (by rw [← a2']; omega)
      rw [← a2'] at this ⊢
      omega
    rw [en] at i2
    exact wt_H_if (fun _ => wt_H_some ⟨fu, i2, i3⟩) (fun _ => wt_H_none)
  · have c' := wt_ncle c
    have ei := wt_i1 (c := u.2.1) (by omega)
    have en : Int32.toNatClampNeg (u.2.1 + (1 : Int32)) = Int32.toNatClampNeg u.2.1 + 1 := by have := wt_tnI (x := u.2.1 + (1 : Int32)) (by omega); omega
    obtain ⟨l1, l2, l3⟩ := e2 (Int32.toNatClampNeg u.2.1) (by show ((Int32.toNatClampNeg u.2.1 : Nat) : Int) < (wt_ga s 22 w).toInt; omega)
    have l1' : wt_ga s 21 (9 * w + Int32.toNatClampNeg u.2.1) = wt_ga z (193 + w) (Int32.toNatClampNeg u.2.1) := l1
    have l2' : 0 ≤ (wt_ga s 21 (9 * w + Int32.toNatClampNeg u.2.1)).toInt := l2
    have l3' : (wt_ga s 21 (9 * w + Int32.toNatClampNeg u.2.1)).toInt ≤ 25 := l3
    refine wt_H_bh (wh_letterAt n hn (t0 := 20) (w := w) (k := Int32.toNatClampNeg u.2.1) (by decide) hx (by omega) eu.symm (by omega)) (fun q4 e4 => ?_)
    subst e4
    dsimp only
    rw [fu.2 (20 + 1) (by decide)]
    obtain ⟨a, ha⟩ : ∃ a : Nat, a = Int32.toNatClampNeg (wt_ga s (20 + 1) (9 * w + Int32.toNatClampNeg u.2.1)) := ⟨_, rfl⟩
    have ea : (wt_ga s (20 + 1) (9 * w + Int32.toNatClampNeg u.2.1)).toInt = (a : Int) := by rw [ha]; exact (wt_tnI l2).symm
    have a26 : a < 26 := by
      have : (wt_ga s (20 + 1) (9 * w + Int32.toNatClampNeg u.2.1)).toInt ≤ 25 := l3
      omega
    refine wt_H_bh (wh_look n hn (k := a) ea (by rw [show wt_ln 83 = 26 from by decide]; exact a26)) (fun q5 e5 => ?_)
    subst e5
    dsimp only
    refine wt_H_bh (wh_put n (k := a) ea (by rw [show wt_ln 83 = 26 from by decide]; exact a26)) (fun q6 ε => ?_)
    have za : (wt_ga z (193 + w) (Int32.toNatClampNeg u.2.1)).toInt = (a : Int) := by rw [← l1']; exact ea
    have ctS : ∀ l : Nat, wt_ct (fun k => (wt_ga z (193 + w) k).toInt) (l : Int) (Int32.toNatClampNeg u.2.1 + 1) = wt_ct (fun k => (wt_ga z (193 + w) k).toInt) (l : Int) (Int32.toNatClampNeg u.2.1) + if (a : Int) = (l : Int) then 1 else 0 := fun l => by
      rw [wt_ct_s, za]
    have cb := wt_ct_bd (fun k => (wt_ga z (193 + w) k).toInt) (a : Int) (Int32.toNatClampNeg u.2.1)
    have va := i2 a a26
    have hba := hb a a26
    have es : (wt_ga u.2.2 83 a - x2).toInt = (wt_ga u.2.2 83 a).toInt - x2.toInt := by
      refine wt_subE ?_ ?_
      · rcases h2 with h | h <;> rw [h] at va ⊢ <;> omega
      · rcases h2 with h | h <;> rw [h] at va ⊢ <;> omega
    have v83 : ∀ l : Nat, l < 26 → (wt_ga q6 83 l).toInt = (wt_ga u.2.2 83 l).toInt - if l = a then x2.toInt else 0 := fun l hl => by
      by_cases x : l = a
      · rw [x, wt_v_sa ε, if_pos rfl]
        exact es
      · rw [wt_w_sa ε l x, if_neg x]
        omega
    have F6 := fu.sa ε rfl
    have VAL : ∀ l : Nat, l < 26 → (wt_ga q6 83 l).toInt = (wt_ga s 83 l).toInt - x2.toInt * wt_ct (fun k => (wt_ga z (193 + w) k).toInt) (l : Int) (Int32.toNatClampNeg (u.2.1 + (1 : Int32))) := fun l hl => by
      rw [v83 l hl, i2 l hl, en, ctS]
      by_cases x : l = a
      · rw [if_pos x, if_pos (by omega), Int.mul_add, Int.mul_one]
        omega
      · rw [if_neg x, if_neg (by omega), Int.add_zero]
        omega
    have N : ∀ y : Int32, (x2.toInt = 1 → (∀ l : Nat, l < 26 → 0 ≤ (wt_ga s 83 l).toInt) → (y = 1 ∧ ∀ l : Nat, l < 26 → 0 ≤ (wt_ga q6 83 l).toInt) ∨ (y = 0 ∧ ∃ l : Nat, l < 26 ∧ (wt_ga q6 83 l).toInt < 0)) → wt_H (K (y, (u.2.1 + (1 : Int32)), q6)) (fun q => wt_fr (fun _ _ => False) (fun i => i = 83) s q.2 ∧ (∀ l : Nat, l < 26 → (wt_ga q.2 83 l).toInt = (wt_ga s 83 l).toInt - x2.toInt * wt_nw z w (l : Int)) ∧ (x2.toInt = 1 → (∀ l : Nat, l < 26 → 0 ≤ (wt_ga s 83 l).toInt) → (q.1 = 1 ∧ ∀ l : Nat, l < 26 → 0 ≤ (wt_ga q.2 83 l).toInt) ∨ (q.1 = 0 ∧ ∃ l : Nat, l < 26 ∧ (wt_ga q.2 83 l).toInt < 0))) := fun y hy => hK _ ⟨⟨by show 0 ≤ (u.2.1 + (1 : Int32)).toInt; omega, by show (u.2.1 + (1 : Int32)).toInt ≤ _; omega⟩, F6, VAL, hy⟩
    refine wt_H_if (fun d => N 0 (fun h1 h3 => ?_)) (fun d => wt_H_if (fun g => N 0 (fun h1 _ => ?_)) (fun g => N 1 (fun h1 h3 => ?_)))
    · rcases i3 h1 h3 with ⟨p, -⟩ | ⟨-, l, p1, p2⟩
      · rw [d] at p
        exact absurd p (by decide)
      · refine Or.inr ⟨rfl, l, p1, ?_⟩
        rw [v83 l p1]
        split <;> omega
    · have g' := wt_clt g
      refine Or.inr ⟨rfl, a, a26, ?_⟩
      rw [v83 a a26, if_pos rfl]
      omega
    · have g' := wt_ncl g
      rcases i3 h1 h3 with ⟨-, p⟩ | ⟨p, -⟩
      · refine Or.inl ⟨rfl, fun l hl => ?_⟩
        rw [v83 l hl]
        by_cases x : l = a
        · rw [if_pos x, x]
          omega
        · rw [if_neg x]
          have := p l hl
          omega
      · exact absurd p d
/-- what a row of words needs -/
def wu_nd (z Z : wt_St) (k : Nat) (l : Int) : Int := wt_sum (fun j => wt_nw z (Int32.toNatClampNeg (wt_ga Z 319 j)) l) k
theorem wu_nd_s (z Z : wt_St) (k : Nat) (l : Int) : wu_nd z Z (k + 1) l = wu_nd z Z k l + wt_nw z (Int32.toNatClampNeg (wt_ga Z 319 k)) l := rfl
theorem wu_nd_eq {z Z Z' : wt_St} {k : Nat} {l : Int} (h : ∀ j, j < k → wt_ga Z' 319 j = wt_ga Z 319 j) : wu_nd z Z' k l = wu_nd z Z k l := wt_sum_congr k (fun j hj => by
  show wt_nw z (Int32.toNatClampNeg (wt_ga Z' 319 j)) l = wt_nw z (Int32.toNatClampNeg (wt_ga Z 319 j)) l
  rw [h j hj])
theorem wu_nw_bd {s z : wt_St} {t m W G w : Nat} {o : Nat → Nat} {l : Int} (R : wu_RW s z t m W G o) (hw : w < W) : 0 ≤ wt_nw z w l ∧ wt_nw z w l ≤ 9 := by
  obtain ⟨-, -, -, tt, -⟩ := R
  obtain ⟨a, -, -, b, -⟩ := tt w hw
  have c := wt_ct_bd (fun k' => (wt_ga z (193 + w) k').toInt) l (Int32.toNatClampNeg (wt_ga z 126 w))
  have d := wt_tnle (b := 9) (x := wt_ga z 126 w) (by rw [← a]; omega)
  unfold wt_nw
  omega
def wu_fF (z Z : wt_St) : Prop := wt_fr (fun i k => i = 108 ∧ k = 60) (fun i => i = 287 ∨ i = 318 ∨ i = 319) z Z
set_option maxHeartbeats 2000000 in
theorem wh_leaf (n : Nat) (hn : 4294967297 < n) {RR : Int32 × Int32 × Int32 × Int32 × wt_St → Option wt_St} {s z Z : wt_St} {t m W G k : Nat} {o : Nat → Nat} {x2 x3 x4 : Int32} (R : wu_RW s z t m W G o) (f : wu_fF z Z) (r : wt_RI Z) (h2 : x2.toInt = (k : Int)) (hk : k ≤ 12) (pw : ∀ j, j < k → 0 ≤ (wt_ga Z 319 j).toInt ∧ (wt_ga Z 319 j).toInt < (W : Int)) : wt_H ((wp_md_needsNone n Z).bind fun q14 => wt_it (wp_md_tries_B35 n RR x2 x3 x4) n ((0 : Int32), q14)) (fun q => wu_fF z q ∧ wt_RI q ∧ (∀ j, wt_ga q 319 j = wt_ga Z 319 j) ∧ (((∀ l : Nat, l < 26 → wu_nd z Z k (l : Int) ≤ wt_go z x3.toInt l) ∧ wt_gf q 108 60 = x4 ∧ ∀ j, j < k → wt_ga q 318 j = wt_ga Z 319 j) ∨ ((∃ l : Nat, l < 26 ∧ wt_go z x3.toInt l < wu_nd z Z k (l : Int)) ∧ wt_gf q 108 60 = wt_gf Z 108 60 ∧ ∀ j, wt_ga q 318 j = wt_ga Z 318 j))) := by
  have k0 : (0 : Int32).toInt = 0 := by decide
  have hW := R.1.2.2.2.1
  refine wt_H_bh (wq_md_needsNoneP n hn Z r).h (fun q14 h14 => ?_)
  obtain ⟨f14, r14, v14⟩ := h14
  refine wt_H_it (fun u : Int32 × wt_St => (0 ≤ u.1.toInt ∧ u.1.toInt ≤ (k : Int)) ∧ wt_RI u.2 ∧ wt_fr (fun _ _ => False) (fun i => i = 287) Z u.2 ∧ ∀ l : Nat, l < 26 → (wt_ga u.2 287 l).toInt = wu_nd z Z (Int32.toNatClampNeg u.1) (l : Int)) (fun K u I hK => ?_) n _ ⟨⟨by show 0 ≤ ((0 : Int32)).toInt; omega, by show ((0 : Int32)).toInt ≤ _; omega⟩, r14, f14, fun l hl => by
    show (wt_ga q14 287 l).toInt = wu_nd z Z (Int32.toNatClampNeg (0 : Int32)) (l : Int)
    rw [wt_tn0, v14 l hl]
    rfl⟩
  obtain ⟨⟨i0, i1⟩, ru, fu, i2⟩ := I
  have eu := wt_tnI i0
  have Fu : wu_fF z u.2 := wt_fr.tr f fu (fun _ _ h => h.elim) (fun _ h => Or.inl h)
  unfold wp_md_tries_B35
  refine wt_H_if (fun c => ?_) (fun c => ?_)
  · have c' := wt_cle c
    have ek : Int32.toNatClampNeg u.1 = k := by omega
    rw [ek] at i2
    have GO : ∀ l : Nat, wt_go u.2 x3.toInt l = wt_go z x3.toInt l := fun l => by
      unfold wt_go
      rw [Fu.2 111 (by decide)]
      refine wt_sum_congr _ (fun k _ => ?_)
      show wt_gf1 u.2 x3.toInt (13 * l + k) = wt_gf1 z x3.toInt (13 * l + k)
      unfold wt_gf1
      rw [Fu.2 124 (by decide), Fu.2 121 (by decide)]
    refine wt_H_bh (wh_lackingM n hn ru) (fun q16 h16 => ?_)
    obtain ⟨e16, h16⟩ := h16
    rw [e16]
    refine wt_H_if (fun d => ?_) (fun d => ?_)
    · have all : ∀ l : Nat, l < 26 → wu_nd z Z k (l : Int) ≤ wt_go z x3.toInt l := fun l hl => by
        rcases h16 with ⟨w, -, w2, -⟩ | ⟨-, w2⟩
        · rw [d, wt_lm1] at w2
          omega
        · have : ¬ wt_go u.2 x3.toInt l < (wt_ga u.2 287 l).toInt := w2 l hl
          rw [GO, i2 l hl] at this
          omega
      obtain ⟨s1, ε⟩ : ∃ q : wt_St, q = wt_sf u.2 108 60 x4 := ⟨_, rfl⟩
      rw [← ε]
      have g1 := wt_fr_sf ε
      have e319 : ∀ j, wt_ga s1 319 j = wt_ga Z 319 j := fun j => (g1.2 319 (fun h => h) j).trans (fu.2 319 (by decide) j)
      refine wt_H_it (fun v : Int32 × wt_St => (0 ≤ v.1.toInt ∧ v.1.toInt ≤ (k : Int)) ∧ wt_RI v.2 ∧ wt_fr (fun _ _ => False) (fun i => i = 318) s1 v.2 ∧ ∀ j : Nat, (j : Int) < v.1.toInt → wt_ga v.2 318 j = wt_ga Z 319 j) (fun K2 v J hK2 => ?_) n _ ⟨⟨by show 0 ≤ ((0 : Int32)).toInt; omega, by show ((0 : Int32)).toInt ≤ _; omega⟩, wt_RI_fno ru ε (Or.inr (by decide +kernel)), wt_fr.rf, fun j hj => absurd (show (j : Int) < ((0 : Int32)).toInt from hj) (by omega)⟩
      obtain ⟨⟨j0, j1⟩, rv, fv, j2⟩ := J
      have ev := wt_tnI j0
      unfold wp_md_tries_B77
      refine wt_H_if (fun g => ?_) (fun g => ?_)
      · have g' := wt_cle g
        refine wt_H_some ⟨wt_fr.tr (wt_fr.tr Fu g1 (fun _ _ h => h) (fun _ h => h.elim)) fv (fun _ _ h => h.elim) (fun _ h => Or.inr (Or.inl h)), rv, fun j => (fv.2 319 (by decide) j).trans (e319 j), Or.inl ⟨all, ?_, fun j hj => j2 j (by omega)⟩⟩
        rw [fv.1 108 60 (fun h => h)]
        exact wt_v_sf ε
      · have g' := wt_ncle g
        have evi := wt_i1 (c := v.1) (by omega)
        refine wt_H_gd (fun _ => wt_H_gd (fun _ => ?_))
        obtain ⟨s2, δ⟩ : ∃ q : wt_St, q = wt_sa v.2 318 (Int32.toNatClampNeg v.1) (wt_ga v.2 319 (Int32.toNatClampNeg v.1)) := ⟨_, rfl⟩
        rw [← δ]
        refine hK2 _ ⟨⟨by show 0 ≤ (v.1 + (1 : Int32)).toInt; omega, by show (v.1 + (1 : Int32)).toInt ≤ _; omega⟩, wt_RI_no rv δ 317 319 (by decide +kernel) (by decide) (by decide), fv.sa δ rfl, fun j hj => ?_⟩
        have hj' : (j : Int) < (v.1 + (1 : Int32)).toInt := hj
        show wt_ga s2 318 j = _
        by_cases x : j = Int32.toNatClampNeg v.1
        · rw [x, wt_v_sa δ, fv.2 319 (by decide)]
          exact e319 _
        · rw [wt_w_sa δ j x]
          exact j2 j (by omega)
    · refine wt_H_some ⟨Fu, ru, fun j => fu.2 319 (by decide) j, Or.inr ⟨?_, fu.1 108 60 (fun h => h), fun j => fu.2 318 (by decide) j⟩⟩
      rcases h16 with ⟨w, w1, -, w3, -⟩ | ⟨w1, -⟩
      · rw [GO, i2 w w1] at w3
        exact ⟨w, w1, w3⟩
      · exact absurd w1 d
  · have c' := wt_ncle c
    have ei := wt_i1 (c := u.1) (by omega)
    have en : Int32.toNatClampNeg (u.1 + (1 : Int32)) = Int32.toNatClampNeg u.1 + 1 := by have := wt_tnI (x := u.1 + (1 : Int32)) (by omega); omega
    have p := pw (Int32.toNatClampNeg u.1) (by omega)
    have ep := wt_tnI p.1
    rw [fu.2 319 (by decide)]
    have ndb : ∀ l : Nat, 0 ≤ wu_nd z Z (Int32.toNatClampNeg u.1) (l : Int) ∧ wu_nd z Z (Int32.toNatClampNeg u.1) (l : Int) ≤ 9 * ((Int32.toNatClampNeg u.1 : Nat) : Int) := fun l => wt_sum_bd (f := fun j => wt_nw z (Int32.toNatClampNeg (wt_ga Z 319 j)) (l : Int)) (c := 9) _ (fun j hj => by
      have q := pw j (by omega)
      have e := wt_tnI q.1
      exact wu_nw_bd R (by omega))
    refine wt_H_gd (fun _ => ?_)
    refine wt_H_bh (wq_md_needsWordP n hn (wt_ga Z 319 (Int32.toNatClampNeg u.1)) u.2 ru p.1 (by omega) (fun l hl => by rw [i2 l hl]; have := ndb l; omega)).h (fun q22 h22 => ?_)
    obtain ⟨f22, r22, v22⟩ := h22
    refine hK _ ⟨⟨by show 0 ≤ (u.1 + (1 : Int32)).toInt; omega, by show (u.1 + (1 : Int32)).toInt ≤ _; omega⟩, r22, wt_fr.tr fu f22 (fun _ _ h => h) (fun _ h => h), fun l hl => ?_⟩
    show (wt_ga q22 287 l).toInt = wu_nd z Z (Int32.toNatClampNeg (u.1 + (1 : Int32))) (l : Int)
    rw [v22 l hl, en, wu_nd_s, i2 l hl]
    have : wt_nw u.2 (Int32.toNatClampNeg (wt_ga Z 319 (Int32.toNatClampNeg u.1))) (l : Int) = wt_nw z (Int32.toNatClampNeg (wt_ga Z 319 (Int32.toNatClampNeg u.1))) (l : Int) := wt_nw_fr (by omega) (fun i hi j => Fu.2 i (by unfold wt_PA at hi; (try dsimp only); omega) j)
    rw [this]
end WTQ3
-- 96zc.fit2.lean.txt
section WTQ4
/-! fitting: the search on both sides -/
noncomputable def wu_tb (n : Nat) : (Int32 × Int32 × Int32 × Int32 × wt_St → Option wt_St) → Int32 × Int32 × Int32 × Int32 × wt_St → Option wt_St := fun R s => wp_md_tries_b n R s.1 s.2.1 s.2.2.1 s.2.2.2.1 s.2.2.2.2
theorem wh_tries_cut (n m' : Nat) {a : Int32 × Int32 × Int32 × Int32 × wt_St} (h1 : ¬ wt_gf a.2.2.2.2 108 60 = (-1 : Int32)) (h2 : wt_gf a.2.2.2.2 108 60 ≤ a.2.2.2.1) : wt_H (wt_it (fun R s => wp_md_tries_b n R s.1 s.2.1 s.2.2.1 s.2.2.2.1 s.2.2.2.2) m' a) (fun q => q = a.2.2.2.2) := by
  cases m' with
  | zero => exact wt_H_none
  | succ m' =>
    show wt_H (wp_md_tries_b n _ a.1 a.2.1 a.2.2.1 a.2.2.2.1 a.2.2.2.2) _
    unfold wp_md_tries_b
    have h2' := wt_cle h2
    rw [if_neg h1, if_neg (show ¬ a.2.2.2.1 < wt_gf a.2.2.2.2 108 60 from fun h => by have := wt_clt h; omega)]
    exact wt_H_some rfl
def wu_I2 (z : wt_St) (t m W : Nat) (x3 : Int32) (a : Int32 × Int32 × Int32 × Int32 × wt_St) : Prop := a.1.toInt = (t : Int) ∧ a.2.2.1 = x3 ∧ (0 ≤ a.2.1.toInt ∧ a.2.1.toInt ≤ (m : Int)) ∧ wu_fF z a.2.2.2.2 ∧ wt_RI a.2.2.2.2 ∧ (∀ j, j < Int32.toNatClampNeg a.2.1 → 0 ≤ (wt_ga a.2.2.2.2 319 j).toInt ∧ (wt_ga a.2.2.2.2 319 j).toInt < (W : Int)) ∧ ∃ l : Nat, l < 26 ∧ wt_go z x3.toInt l < wu_nd z a.2.2.2.2 (Int32.toNatClampNeg a.2.1) (l : Int)
def wu_Q2' (z : wt_St) (a : Int32 × Int32 × Int32 × Int32 × wt_St) (q : wt_St) : Prop := wu_fF z q ∧ wt_RI q ∧ wt_gf q 108 60 = wt_gf a.2.2.2.2 108 60 ∧ (∀ j, wt_ga q 318 j = wt_ga a.2.2.2.2 318 j) ∧ ∀ j, j < Int32.toNatClampNeg a.2.1 → wt_ga q 319 j = wt_ga a.2.2.2.2 319 j
set_option maxHeartbeats 4000000 in
theorem wh_tries_no (n : Nat) (hn : 4294967297 < n) {s z : wt_St} {t m W G : Nat} {o : Nat → Nat} {x3 : Int32} (R : wu_RW s z t m W G o) : ∀ (m' : Nat) (a : Int32 × Int32 × Int32 × Int32 × wt_St), wu_I2 z t m W x3 a → wt_H (wt_it (fun R s => wp_md_tries_b n R s.1 s.2.1 s.2.2.1 s.2.2.2.1 s.2.2.2.2) m' a) (wu_Q2' z a) := by
  have k0 : (0 : Int32).toInt = 0 := by decide
  have k1 : (1 : Int32).toInt = 1 := by decide
  have R' := R
  obtain ⟨⟨a1, a2, a3, a4, a5⟩, ⟨-, b6, b7⟩, a8, -, gs, -⟩ := R'
  have RZ : ∀ q, wu_fF z q → wu_RW s q t m W G o := fun q f => wu_RW_fr R (wt_fr.rf (F := fun _ _ => False) (A := fun _ => False)) f (fun _ _ h => h) (by decide) (fun i hi => by (try dsimp only); omega)
  refine wt_H_rec (wu_I2 z t m W x3) (wu_Q2' z) (fun RR a I hR => ?_)
  obtain ⟨h1, h3, ⟨h2a, h2b⟩, f, r, pw, l, l26, hl⟩ := I
  have et := wt_tnN h1
  have ek := wt_tnI h2a
  obtain ⟨k, hk⟩ : ∃ k : Nat, k = Int32.toNatClampNeg a.2.1 := ⟨_, rfl⟩
  rw [← hk] at ek pw hl
  have SELF : wu_Q2' z a a.2.2.2.2 := ⟨f, r, rfl, fun _ => rfl, fun _ _ => rfl⟩
  have B18 : wt_H (wp_md_tries_B18 n RR a.1 a.2.1 a.2.2.1 a.2.2.2.1 a.2.2.2.2) (wu_Q2' z a) := by
    unfold wp_md_tries_B18
    rw [et, f.2 253 (by decide)]
    refine wt_H_gd (fun _ => wt_H_if (fun c => ?_) (fun c => ?_))
    · have c' := wt_ceq c
      refine (wh_leaf n hn (RR := RR) (x2 := a.2.1) (x3 := a.2.2.1) (x4 := a.2.2.2.1) R f r ek.symm (by omega) pw).imp (fun q hq => ?_)
      obtain ⟨q1, q2, q3, q4⟩ := hq
      rw [h3] at q4
      rcases q4 with ⟨q5, -⟩ | ⟨-, q5, q6⟩
      · have := q5 l l26
        omega
      · exact ⟨q1, q2, q5, q6, fun j _ => q3 j⟩
    · have hkm : k < m := by
        have := wt_nceq c
        omega
      have e1 := wt_i1 (c := a.2.1) (by omega)
      have e1n : Int32.toNatClampNeg (a.2.1 + (1 : Int32)) = k + 1 := by have := wt_tnI (x := a.2.1 + (1 : Int32)) (by omega); omega
      refine wt_H_it (fun u : Int32 × wt_St => 0 ≤ u.1.toInt ∧ wu_Q2' z a u.2) (fun K u J hK => ?_) n _ ⟨by show 0 ≤ ((0 : Int32)).toInt; omega, SELF⟩
      obtain ⟨j0, fu, ru, u60, u318, u319⟩ := J
      have eu := wt_tnI j0
      unfold wp_md_tries_B107
      rw [fu.1 108 28 (by decide)]
      refine wt_H_if (fun d => wt_H_some ⟨fu, ru, u60, u318, u319⟩) (fun d => ?_)
      have d' := wt_ncle d
      have ei := wt_i1 (c := u.1) (by omega)
      have ST : ∀ q, wu_Q2' z a q → wt_H (wp_md_tries_B177 n RR a.1 a.2.1 a.2.2.1 a.2.2.2.1 u.1 K q) (wu_Q2' z a) := fun q hq => by
        unfold wp_md_tries_B177
        exact hK _ ⟨by show 0 ≤ (u.1 + (1 : Int32)).toInt; omega, hq⟩
      have B151 : wt_H (wp_md_tries_B151 n RR a.1 a.2.1 a.2.2.1 a.2.2.2.1 u.1 K u.2) (wu_Q2' z a) := by
        unfold wp_md_tries_B151
        rw [← hk]
        refine wt_H_gd (fun _ => ?_)
        obtain ⟨s1, ε⟩ : ∃ q : wt_St, q = wt_sa u.2 319 k u.1 := ⟨_, rfl⟩
        rw [← ε]
        have g1 := wt_fr_sa ε
        have F1 : wu_fF z s1 := fu.sa ε (Or.inr (Or.inr rfl))
        have r1 : wt_RI s1 := wt_Rn16 ru ε (by decide) (by decide) j0 (by omega)
        refine wt_H_bh (wh_priceM n (RZ s1 F1) r1 (x := u.1) (w := Int32.toNatClampNeg u.1) eu.symm (by omega)) (fun q9 h9 => ?_)
        rw [h9.1]
        have I1 : wu_I2 z t m W x3 (a.1, (a.2.1 + (1 : Int32)), a.2.2.1, (a.2.2.2.1 + q9.1), s1) := by
          refine ⟨h1, h3, ⟨by show 0 ≤ (a.2.1 + (1 : Int32)).toInt; omega, by show (a.2.1 + (1 : Int32)).toInt ≤ _; omega⟩, F1, r1, fun j hj => ?_, l, l26, ?_⟩
          · have hj' : j < Int32.toNatClampNeg (a.2.1 + (1 : Int32)) := hj
            show 0 ≤ (wt_ga s1 319 j).toInt ∧ (wt_ga s1 319 j).toInt < (W : Int)
            by_cases x : j = k
            · rw [x, wt_v_sa ε]
              omega
            · rw [wt_w_sa ε j x, u319 j (by omega)]
              exact pw j (by omega)
          · show wt_go z x3.toInt l < wu_nd z s1 (Int32.toNatClampNeg (a.2.1 + (1 : Int32))) (l : Int)
            rw [e1n, wu_nd_s, wu_nd_eq (Z := a.2.2.2.2) (fun j hj => (wt_w_sa ε j (by omega)).trans (u319 j (by omega))), wt_v_sa ε]
            have := (wu_nw_bd R (w := Int32.toNatClampNeg u.1) (l := (l : Int)) (by omega)).1
            omega
        refine wt_H_bh (hR _ I1) (fun q10 h10 => ?_)
        obtain ⟨f10, r10, v60, v318, v319⟩ := h10
        have v60' : wt_gf q10 108 60 = wt_gf s1 108 60 := v60
        have v318' : ∀ j, wt_ga q10 318 j = wt_ga s1 318 j := v318
        have v319' : ∀ j, j < Int32.toNatClampNeg (a.2.1 + (1 : Int32)) → wt_ga q10 319 j = wt_ga s1 319 j := v319
        refine ST q10 ⟨f10, r10, v60'.trans ((g1.1 108 60 (fun h => h)).trans u60), fun j => (v318' j).trans ((g1.2 318 (by decide) j).trans (u318 j)), fun j hj => ?_⟩
        rw [v319' j (by omega), wt_w_sa ε j (by omega)]
        exact u319 j hj
      refine wt_H_bh (wh_isOfM n (RZ _ fu) (x := u.1) (v := Int32.toNatClampNeg u.1) (y2 := a.2.1) (i := k) eu.symm (by omega) h1 ek.symm hkm) (fun q5 h5 => ?_)
      rw [h5.1]
      refine wt_H_if (fun _ => ST _ ⟨fu, ru, u60, u318, u319⟩) (fun _ => wt_H_if (fun _ => B151) (fun g => wt_H_gd (fun _ => ?_)))
      have g' := wt_ncle g
      have es := wt_subE (x := a.2.1) (y := (1 : Int32)) (by omega) (by omega)
      have esn : Int32.toNatClampNeg (a.2.1 - (1 : Int32)) = k - 1 := by have := wt_tnI (x := a.2.1 - (1 : Int32)) (by omega); omega
      rw [esn, u319 (k - 1) (by omega)]
      have p := pw (k - 1) (by omega)
      have ep := wt_tnI p.1
      refine wt_H_bh (wh_mayM n (RZ _ fu) (x := wt_ga a.2.2.2.2 319 (k - 1)) (y := u.1) (w := Int32.toNatClampNeg (wt_ga a.2.2.2.2 319 (k - 1))) (v := Int32.toNatClampNeg u.1) ep.symm eu.symm (by omega) (by omega)) (fun q12 h12 => ?_)
      rw [h12.1]
      exact wt_H_if (fun _ => ST _ ⟨fu, ru, u60, u318, u319⟩) (fun _ => B151)
  show wt_H (wp_md_tries_b n RR a.1 a.2.1 a.2.2.1 a.2.2.2.1 a.2.2.2.2) (wu_Q2' z a)
  unfold wp_md_tries_b
  exact wt_H_if (fun _ => B18) (fun _ => wt_H_if (fun _ => B18) (fun _ => wt_H_some SELF))
/-- the two searches, so many words laid -/
def wu_fS (s S : wt_St) : Prop := wt_fr (fun i k => i = 81 ∧ k = 9) (fun i => i = 83 ∨ i = 84 ∨ i = 85) s S
def wu_FT (s z : wt_St) (m W : Nat) (c : Int) (k : Nat) (S Z : wt_St) : Prop := wu_fS s S ∧ (wu_fF z Z ∧ wt_RI Z) ∧ (∀ j, j < k → wt_ga S 84 j = wt_ga Z 319 j ∧ 0 ≤ (wt_ga Z 319 j).toInt ∧ (wt_ga Z 319 j).toInt < (W : Int)) ∧ (∀ l : Nat, l < 26 → (wt_ga S 83 l).toInt = wt_go z c l - wu_nd z Z k (l : Int) ∧ 0 ≤ (wt_ga S 83 l).toInt) ∧ wt_gf S 81 9 = wt_gf Z 108 60 ∧ (¬ wt_gf S 81 9 = (-1 : Int32) → ∀ j, j < m → wt_ga S 85 j = wt_ga Z 318 j)
def wu_I3 (s z : wt_St) (t m W : Nat) (x3 : Int32) (a b : Int32 × Int32 × Int32 × Int32 × wt_St) : Prop := (a.1.toInt = (t : Int) ∧ b.1.toInt = (t : Int) ∧ b.2.2.1 = x3) ∧ (a.2.1 = b.2.1 ∧ 0 ≤ a.2.1.toInt ∧ a.2.1.toInt ≤ (m : Int)) ∧ a.2.2.2.1 = b.2.2.2.1 ∧ ((a.2.1.toInt = 0 ∧ a.2.2.1 = -1) ∨ (0 < a.2.1.toInt ∧ a.2.2.1 = wt_ga b.2.2.2.2 319 (Int32.toNatClampNeg a.2.1 - 1))) ∧ wu_FT s z m W x3.toInt (Int32.toNatClampNeg a.2.1) a.2.2.2.2 b.2.2.2.2 ∧ (wt_gf a.2.2.2.2 81 9 = -1 ∨ a.2.2.2.1 < wt_gf a.2.2.2.2 81 9)
def wu_Q3 (s z : wt_St) (m W : Nat) (x3 : Int32) (a b : Int32 × Int32 × Int32 × Int32 × wt_St) (q y : wt_St) : Prop := wu_FT s z m W x3.toInt (Int32.toNatClampNeg a.2.1) q y ∧ ∀ j, j < Int32.toNatClampNeg a.2.1 → wt_ga y 319 j = wt_ga b.2.2.2.2 319 j
set_option maxRecDepth 100000 in
set_option maxHeartbeats 8000000 in
theorem wr_fit (n : Nat) (hn : 4294967297 < n) {s z : wt_St} {t m W G : Nat} {o : Nat → Nat} {x3 : Int32} (R : wu_RW s z t m W G o) (rz : wt_RI z) (gob : ∀ l : Nat, l < 26 → wt_go z x3.toInt l ≤ 12) : ∀ (n1 n2 : Nat) (a b : Int32 × Int32 × Int32 × Int32 × wt_St), wu_I3 s z t m W x3 a b → wt_HH (wt_it (fun R s => wp_rw_fitFrom_b n R s.1 s.2.1 s.2.2.1 s.2.2.2.1 s.2.2.2.2) n1 a) (wt_it (fun R s => wp_md_tries_b n R s.1 s.2.1 s.2.2.1 s.2.2.2.1 s.2.2.2.2) n2 b) (wu_Q3 s z m W x3 a b) := by
  have k0 : (0 : Int32).toInt = 0 := by decide
  have k1 : (1 : Int32).toInt = 1 := by decide
  have k12 : (12 : Int32).toInt = 12 := by decide
  have R' := R
  obtain ⟨⟨a1, a2, a3, a4, a5⟩, ⟨a6, b6, b7⟩, a8, -, gs, -⟩ := R'
  have RZ : ∀ q, wu_fF z q → wu_RW s q t m W G o := fun q f => wu_RW_fr R (wt_fr.rf (F := fun _ _ => False) (A := fun _ => False)) f (fun _ _ h => h) (by decide) (fun i hi => by (try dsimp only); omega)
  have RS : ∀ q y, wu_fS s q → wu_fF z y → wu_RW q y t m W G o := fun q y f g => wu_RW_fr R f g (fun i hi => by (try dsimp only); omega) (by decide) (fun i hi => by (try dsimp only); omega)
  have EE : ∀ q, wu_fS s q → (∀ w, wu_F q w = wu_F s w) ∧ (∀ w, wu_Z q w = wu_Z s w) ∧ (∀ w v, wu_of q w v = wu_of s w v) ∧ ∀ w v, wu_mf q w v = wu_mf s w v := fun q f => wu_FZ_eq (fun i hi => f.2 i (by (try dsimp only); omega))
  have NWz : ∀ (Z : wt_St) (w : Nat) (l : Int), wu_fF z Z → w < W → wt_nw Z w l = wt_nw z w l := fun Z w l f hw => wt_nw_fr (by omega) (fun i hi j => f.2 i (by unfold wt_PA at hi; (try dsimp only); omega) j)
  have PWz : ∀ (Z : wt_St) (w : Nat), wu_fF z Z → w < W → wu_pw Z w = wu_pw z w := fun Z w f hw => by
    unfold wu_pw
    rw [f.2 126 (by decide)]
    exact wt_sum_congr _ (fun k _ => by
      show (wt_ga Z 115 (Int32.toNatClampNeg (wt_ga Z (193 + w) k))).toInt = (wt_ga z 115 (Int32.toNatClampNeg (wt_ga z (193 + w) k))).toInt
      rw [f.2 (193 + w) (by (try dsimp only); omega), f.2 115 (by decide)])
  refine wt_HH_rec (wu_I3 s z t m W x3) (wu_Q3 s z m W x3) (fun RC m' a b I hR => ?_)
  obtain ⟨⟨h1, h1b, h3⟩, ⟨hab, h2a, h2b⟩, hpr, hbf, FT, hcut⟩ := I
  have et := wt_tnN h1b
  have ek := wt_tnI h2a
  obtain ⟨k, hk⟩ : ∃ k : Nat, k = Int32.toNatClampNeg a.2.1 := ⟨_, rfl⟩
  have eqQ : ∀ q y, (wu_FT s z m W x3.toInt k q y ∧ ∀ j, j < k → wt_ga y 319 j = wt_ga b.2.2.2.2 319 j) → wu_Q3 s z m W x3 a b q y := fun q y h => by
    unfold wu_Q3
    rw [← hk]
    exact h
  rw [← hk] at ek hbf FT
  have FT' := FT
  obtain ⟨fS, ⟨fZ, rZ⟩, pw, sp, pe, row⟩ := FT'
  obtain ⟨RM, hRM⟩ : ∃ RM, RM = wt_it (wu_tb n) m' := ⟨_, rfl⟩
  show wt_HH (wp_rw_fitFrom_b n RC a.1 a.2.1 a.2.2.1 a.2.2.2.1 a.2.2.2.2) (wp_md_tries_b n (wt_it (wu_tb n) m') b.1 b.2.1 b.2.2.1 b.2.2.2.1 b.2.2.2.2) (wu_Q3 s z m W x3 a b)
  rw [← hRM]
  unfold wp_rw_fitFrom_b wp_md_tries_b
  -- the reference goes on as well
  have GOON : ∀ (p : Option wt_St), wt_HH p (wp_md_tries_B18 n RM b.1 b.2.1 b.2.2.1 b.2.2.2.1 b.2.2.2.2) (wu_Q3 s z m W x3 a b) → wt_HH p (if (wt_gf b.2.2.2.2 108 60) = (-1 : Int32) then wp_md_tries_B18 n RM b.1 b.2.1 b.2.2.1 b.2.2.2.1 b.2.2.2.2 else if b.2.2.2.1 < (wt_gf b.2.2.2.2 108 60) then wp_md_tries_B18 n RM b.1 b.2.1 b.2.2.1 b.2.2.2.1 b.2.2.2.2 else some b.2.2.2.2) (wu_Q3 s z m W x3 a b) := fun p h => by
    refine wt_HH_ir (fun _ => h) (fun c1 => wt_HH_ir (fun _ => h) (fun c2 => ?_))
    rw [← pe] at c1 c2
    rw [← hpr] at c2
    rcases hcut with q | q
    · exact absurd q c1
    · exact absurd q c2
  refine GOON _ ?_
  unfold wp_md_tries_B18
  rw [et, fZ.2 253 (by decide), ← hab, h3, ← hpr]
  refine wt_HH_gr (fun _ => ?_)
  refine wt_HH_l (wh_lengthOf n hn h1 a1 (RS _ _ fS fZ).2.1.1) (fun q1 e1 => ?_)
  rw [e1.1]
  by_cases c : k = m
  · -- a row stands
    rw [if_pos (show q1.1 ≤ a.2.1 from Int32.le_iff_toInt_le.mpr (by omega)), if_pos (show a.2.1 = wt_ga z 253 t from wt_eqI (by omega))]
    unfold wp_rw_fitFrom_B18
    refine wt_HH_l (wh_copyRow n (a := 84) (b := 85) (by decide) (by decide)) (fun q3 h3' => ?_)
    obtain ⟨f3, v3⟩ := h3'
    refine wt_HH_rr (wh_leaf n hn (RR := RM) (x2 := a.2.1) (x3 := x3) (x4 := a.2.2.2.1) R fZ rZ ek.symm (by omega) (fun j hj => (pw j hj).2)) (fun y hy => wt_H_some (eqQ _ _ ?_))
    obtain ⟨y1, y2, y3, y4⟩ := hy
    rcases y4 with ⟨-, y5, y6⟩ | ⟨⟨l, l1, l2⟩, -⟩
    · obtain ⟨s4, ε⟩ : ∃ q : wt_St, q = wt_sf q3 81 9 a.2.2.2.1 := ⟨_, rfl⟩
      rw [← ε]
      have g4 := wt_fr_sf ε
      refine ⟨⟨(wt_fr.tr fS f3 (fun _ _ h => h.elim) (fun _ h => Or.inr (Or.inr h))).sf ε ⟨rfl, rfl⟩, ⟨y1, y2⟩, fun j hj => ?_, fun l hl => ?_, ?_, fun _ j hj => ?_⟩, fun j _ => y3 j⟩
      · rw [g4.2 84 (fun h => h), f3.2 84 (by decide), y3]
        exact pw j hj
      · rw [g4.2 83 (fun h => h), f3.2 83 (by decide), wu_nd_eq (Z := b.2.2.2.2) (fun j _ => y3 j)]
        exact sp l hl
      · rw [wt_v_sf ε, y5]
      · rw [g4.2 85 (fun h => h), v3 j (by rw [show wt_ln 84 = 12 from by decide]; omega), y6 j (by omega)]
        exact (pw j (by omega)).1
    · have := sp l l1
      omega
  -- the words of this place
  have hkm : k < m := by omega
  rw [if_neg (show ¬ q1.1 ≤ a.2.1 from fun h => by have := wt_cle h; omega), if_neg (show ¬ a.2.1 = wt_ga z 253 t from fun h => by have := wt_ceq h; omega), if_pos (show a.2.1 < (12 : Int32) from Int32.lt_iff_toInt_lt.mpr (by omega))]
  have hw := (a8 k hkm).1
  obtain ⟨-, -, ⟨z1, z2, z3⟩, z4⟩ := wu_grp gs a5 a4 hw
  have e1k := wt_i1 (c := a.2.1) (by omega)
  have e1n : Int32.toNatClampNeg (a.2.1 + (1 : Int32)) = k + 1 := by have := wt_tnI (x := a.2.1 + (1 : Int32)) (by omega); omega
  refine wt_HH_l (wh_wordAtR n hn (RS _ _ fS fZ) h1 (i := k) ek.symm hkm) (fun q5 e5 => ?_)
  rw [e5.1]
  refine wt_HH_ita (fun (u v : Int32 × wt_St) => (0 ≤ u.1.toInt ∧ u.1.toInt ≤ (wu_Z s (o k) : Int)) ∧ (0 ≤ v.1.toInt ∧ v.1.toInt ≤ (W : Int)) ∧ (v.1.toInt ≤ (wu_F s (o k) : Int) → u.1.toInt = 0) ∧ ((wu_F s (o k) : Int) ≤ v.1.toInt → v.1.toInt ≤ (wu_F s (o k) : Int) + (wu_Z s (o k) : Int) → u.1.toInt = v.1.toInt - (wu_F s (o k) : Int)) ∧ ((wu_F s (o k) : Int) + (wu_Z s (o k) : Int) ≤ v.1.toInt → u.1.toInt = (wu_Z s (o k) : Int)) ∧ wu_FT s z m W x3.toInt k u.2 v.2 ∧ ∀ j, j < k → wt_ga v.2 319 j = wt_ga b.2.2.2.2 319 j) (fun KM mm u v J hK => ?_) n n _ _ ⟨⟨by show 0 ≤ ((0 : Int32)).toInt; omega, by show ((0 : Int32)).toInt ≤ _; omega⟩, ⟨by show 0 ≤ ((0 : Int32)).toInt; omega, by show ((0 : Int32)).toInt ≤ _; omega⟩, fun _ => k0, fun h _ => by have h' : (wu_F s (o k) : Int) ≤ ((0 : Int32)).toInt := h; show ((0 : Int32)).toInt = ((0 : Int32)).toInt - _; omega, fun h => by have h' : (wu_F s (o k) : Int) + (wu_Z s (o k) : Int) ≤ ((0 : Int32)).toInt := h; omega, FT, fun _ _ => rfl⟩
  obtain ⟨⟨u0, u1⟩, ⟨v0, v1⟩, p1, p2, p3, FTu, pre⟩ := J
  have FTu' := FTu
  obtain ⟨gS, ⟨gZ, sZ⟩, qw, sq, qe, qrow⟩ := FTu'
  have eu := wt_tnI u0
  have ev := wt_tnI v0
  obtain ⟨eF, eZ, -, eM⟩ := EE u.2 gS
  have gsu : wt_gs 20 W G u.2 := (RS _ _ gS gZ).2.2.2.2.1
  unfold wp_md_tries_B107 wp_md_tries_B177
  rw [gZ.1 108 28 (by decide)]
  by_cases d : wt_gf z 108 28 ≤ v.1
  · have d' := wt_cle d
    rw [if_pos d]
    refine wt_HH_sl (fun mm' => ?_)
    unfold wp_rw_fitFrom_B50
    refine wt_HH_l (wh_members n hn gsu a5 a4 hw e5.2) (fun q6 e6 => ?_)
    rw [eZ] at e6
    rw [if_pos (show q6.1 ≤ u.1 from Int32.le_iff_toInt_le.mpr (by have := p3 (by omega); omega)), e6.1]
    exact wt_HH_some (eqQ _ _ ⟨FTu, pre⟩)
  rw [if_neg d]
  have d' := wt_ncle d
  have evi := wt_i1 (c := v.1) (by omega)
  obtain ⟨x, hx⟩ : ∃ x : Nat, x = Int32.toNatClampNeg v.1 := ⟨_, rfl⟩
  rw [← hx] at ev
  have hxW : x < W := by omega
  refine wt_HH_r (wh_isOfM n (RZ _ gZ) (x := v.1) (v := x) (y2 := a.2.1) (i := k) ev.symm hxW h1b ek.symm hkm) (fun q5' h5 => ?_)
  obtain ⟨h5, g5⟩ := h5
  rw [h5]
  rcases g5 with ⟨b1, b2⟩ | ⟨b1, b2⟩
  rotate_left
  · -- a word of another group
    rw [if_pos (show q5'.1 = 0 from b1)]
    have no : ¬ (wu_F s (o k) ≤ x ∧ x < wu_F s (o k) + wu_Z s (o k)) := fun h => by
      rw [(z4 x hxW).mpr h] at b2
      exact absurd b2 (by decide)
    exact hK mm u _ ⟨⟨u0, u1⟩, ⟨by show 0 ≤ (v.1 + (1 : Int32)).toInt; omega, by show (v.1 + (1 : Int32)).toInt ≤ _; omega⟩, fun h => by have h' : (v.1 + (1 : Int32)).toInt ≤ (wu_F s (o k) : Int) := h; exact p1 (by omega), fun h h2 => by
      have h' : (wu_F s (o k) : Int) ≤ (v.1 + (1 : Int32)).toInt := h
      have h2' : (v.1 + (1 : Int32)).toInt ≤ (wu_F s (o k) : Int) + (wu_Z s (o k) : Int) := h2
      show u.1.toInt = (v.1 + (1 : Int32)).toInt - _
      have := p1 (by omega)
      omega, fun h => by
      have h' : (wu_F s (o k) : Int) + (wu_Z s (o k) : Int) ≤ (v.1 + (1 : Int32)).toInt := h
      exact p3 (by omega), FTu, pre⟩
  rw [if_neg (show ¬ q5'.1 = 0 by rw [b1]; decide)]
  obtain ⟨y1, y2⟩ := (z4 x hxW).mp b2
  have ux := p2 (by omega) (by omega)
  have eui := wt_i1 (c := u.1) (by omega)
  -- both go to the next word
  have NX : ∀ (mm' : Nat) (S Z : wt_St), wu_FT s z m W x3.toInt k S Z → (∀ j, j < k → wt_ga Z 319 j = wt_ga b.2.2.2.2 319 j) → wt_HH (wt_it (wp_rw_fitFrom_B50 n RC a.1 a.2.1 a.2.2.1 a.2.2.2.1 q5.1) mm' ((u.1 + (1 : Int32)), S)) (KM ((v.1 + (1 : Int32)), Z)) (wu_Q3 s z m W x3 a b) := fun mm' S Z h1 h2 => hK mm' _ _ ⟨⟨by show 0 ≤ (u.1 + (1 : Int32)).toInt; omega, by show (u.1 + (1 : Int32)).toInt ≤ _; omega⟩, ⟨by show 0 ≤ (v.1 + (1 : Int32)).toInt; omega, by show (v.1 + (1 : Int32)).toInt ≤ _; omega⟩, fun h => by have h' : (v.1 + (1 : Int32)).toInt ≤ (wu_F s (o k) : Int) := h; omega, fun _ _ => by show (u.1 + (1 : Int32)).toInt = (v.1 + (1 : Int32)).toInt - _; omega, fun h => by have h' : (wu_F s (o k) : Int) + (wu_Z s (o k) : Int) ≤ (v.1 + (1 : Int32)).toInt := h; show (u.1 + (1 : Int32)).toInt = _; omega, h1, h2⟩
  refine wt_HH_sl (fun mm' => ?_)
  unfold wp_rw_fitFrom_B50
  refine wt_HH_l (wh_members n hn gsu a5 a4 hw e5.2) (fun q6 e6 => ?_)
  rw [eZ] at e6
  rw [if_neg (show ¬ q6.1 ≤ u.1 from fun h => by have := wt_cle h; omega), e6.1]
  refine wt_HH_l (wh_first n hn gsu a5 a4 hw e5.2) (fun q8 e8 => ?_)
  rw [eF] at e8
  rw [e8.1]
  have ea := wt_addE (x := q8.1) (y := u.1) (by omega) (by omega)
  have ex : (q8.1 + u.1).toInt = (x : Int) := by omega
  have exv : q8.1 + u.1 = v.1 := wt_eqI (by omega)
  refine wt_HH_l (wh_priceC n hn (RS _ _ gS gZ) sZ ex hxW) (fun q9 e9 => ?_)
  obtain ⟨e9, v9⟩ := e9
  rw [PWz _ _ gZ hxW] at v9
  rw [e9]
  unfold wp_rw_fitFrom_B156
  -- the reference lays the word and goes deeper
  have DEEP : wt_HH (if (wt_gf u.2 81 9) = (-1 : Int32) then wp_rw_fitFrom_B116 n RC a.1 a.2.1 a.2.2.1 a.2.2.2.1 q5.1 u.1 (q8.1 + u.1) (a.2.2.2.1 + q9.1) (wt_it (wp_rw_fitFrom_B50 n RC a.1 a.2.1 a.2.2.1 a.2.2.2.1 q5.1) mm') u.2 else if (wt_gf u.2 81 9) ≤ (a.2.2.2.1 + q9.1) then wt_it (wp_rw_fitFrom_B50 n RC a.1 a.2.1 a.2.2.1 a.2.2.2.1 q5.1) mm' ((u.1 + (1 : Int32)), u.2) else wp_rw_fitFrom_B116 n RC a.1 a.2.1 a.2.2.1 a.2.2.2.1 q5.1 u.1 (q8.1 + u.1) (a.2.2.2.1 + q9.1) (wt_it (wp_rw_fitFrom_B50 n RC a.1 a.2.1 a.2.2.1 a.2.2.2.1 q5.1) mm') u.2) (wp_md_tries_B151 n RM b.1 a.2.1 x3 a.2.2.2.1 v.1 KM v.2) (wu_Q3 s z m W x3 a b) := by
    unfold wp_md_tries_B151 wp_md_tries_B177
    rw [← hk]
    refine wt_HH_gr (fun _ => ?_)
    obtain ⟨Z1, ε⟩ : ∃ q : wt_St, q = wt_sa v.2 319 k v.1 := ⟨_, rfl⟩
    rw [← ε]
    have g1 := wt_fr_sa ε
    have F1 : wu_fF z Z1 := gZ.sa ε (Or.inr (Or.inr rfl))
    have r1 : wt_RI Z1 := wt_Rn16 sZ ε (by decide) (by decide) v0 (by omega)
    have e319 : ∀ j, j < k → wt_ga Z1 319 j = wt_ga v.2 319 j := fun j hj => wt_w_sa ε j (by omega)
    have v319 : wt_ga Z1 319 k = v.1 := wt_v_sa ε
    have FT1 : wu_FT s z m W x3.toInt k u.2 Z1 := ⟨gS, ⟨F1, r1⟩, fun j hj => by rw [e319 j hj]; exact qw j hj, fun l hl => by rw [wu_nd_eq e319]; exact sq l hl, by rw [g1.1 108 60 (fun h => h)]; exact qe, fun h j hj => by rw [g1.2 318 (by decide)]; exact qrow h j hj⟩
    refine wt_HH_r (wh_priceM n (RZ Z1 F1) r1 ev.symm hxW) (fun y9 h9 => ?_)
    obtain ⟨h9, w9⟩ := h9
    rw [PWz _ _ F1 hxW] at w9
    have same : q9.1 = y9.1 := wt_eqI (by rw [v9, w9])
    rw [h9, ← same]
    have nwb := fun l : Nat => wu_nw_bd R (w := x) (l := (l : Int)) hxW
    have s83 : ∀ l : Nat, l < 26 → -200 ≤ (wt_ga u.2 83 l).toInt ∧ (wt_ga u.2 83 l).toInt ≤ 200 := fun l hl => by
      have h := sq l hl
      have g := gob l hl
      have nn : 0 ≤ wu_nd z v.2 k (l : Int) := (wt_sum_bd (f := fun j => wt_nw z (Int32.toNatClampNeg (wt_ga v.2 319 j)) (l : Int)) (c := 9) k (fun j hj => by
        have q := (qw j hj).2
        have e := wt_tnI q.1
        exact wu_nw_bd R (by omega))).1
      omega
    have nd1 : ∀ l : Nat, wu_nd z Z1 (k + 1) (l : Int) = wu_nd z v.2 k (l : Int) + wt_nw z x (l : Int) := fun l => by
      rw [wu_nd_s, wu_nd_eq e319, v319, wt_tnN ev.symm]
    -- with enough pieces, or without
    have B116 : (wt_gf u.2 81 9 = -1 ∨ (a.2.2.2.1 + q9.1) < wt_gf u.2 81 9) → wt_HH (wp_rw_fitFrom_B116 n RC a.1 a.2.1 a.2.2.1 a.2.2.2.1 q5.1 u.1 (q8.1 + u.1) (a.2.2.2.1 + q9.1) (wt_it (wp_rw_fitFrom_B50 n RC a.1 a.2.1 a.2.2.1 a.2.2.2.1 q5.1) mm') u.2) ((RM (b.1, (a.2.1 + (1 : Int32)), x3, (a.2.2.2.1 + q9.1), Z1)).bind fun q10 => KM ((v.1 + (1 : Int32)), q10)) (wu_Q3 s z m W x3 a b) := fun hc => by
      unfold wp_rw_fitFrom_B116 wp_rw_fitFrom_B148 wp_rw_fitFrom_B156
      refine wt_HH_l (wh_spend n hn (RS _ _ gS gZ) (x1 := q8.1 + u.1) (x2 := (1 : Int32)) ex hxW (Or.inl k1) s83) (fun q13 h13 => ?_)
      obtain ⟨f13, v13, w13⟩ := h13
      have F13 : wu_fS s q13.2 := wt_fr.tr gS f13 (fun _ _ h => h.elim) (fun _ h => Or.inl h)
      have v13' : ∀ l : Nat, l < 26 → (wt_ga q13.2 83 l).toInt = wt_go z x3.toInt l - wu_nd z Z1 (k + 1) (l : Int) := fun l hl => by
        rw [v13 l hl, k1, NWz _ _ _ gZ hxW, nd1, (sq l hl).1]
        omega
      -- the pieces come back
      have BACK : ∀ (S Z : wt_St), wu_fS s S → (wu_fF z Z ∧ wt_RI Z) → (∀ j, j < k → wt_ga S 84 j = wt_ga u.2 84 j) → (∀ j, j < k + 1 → wt_ga Z 319 j = wt_ga Z1 319 j) → (∀ l : Nat, l < 26 → (wt_ga S 83 l).toInt = wt_go z x3.toInt l - wu_nd z Z1 (k + 1) (l : Int)) → wt_gf S 81 9 = wt_gf Z 108 60 → (¬ wt_gf S 81 9 = (-1 : Int32) → ∀ j, j < m → wt_ga S 85 j = wt_ga Z 318 j) → wt_HH ((wp_rw_spend n (q8.1 + u.1) (-1 : Int32) S).bind fun q15 => wt_it (wp_rw_fitFrom_B50 n RC a.1 a.2.1 a.2.2.1 a.2.2.2.1 q5.1) mm' ((u.1 + (1 : Int32)), q15.2)) (KM ((v.1 + (1 : Int32)), Z)) (wu_Q3 s z m W x3 a b) := fun S Z hS hZ h84 h319 h83 h81 h85 => by
        refine wt_HH_l (wh_spend n hn (RS _ _ hS hZ.1) (x1 := q8.1 + u.1) (x2 := (-1 : Int32)) ex hxW (Or.inr wt_lm1) (fun l hl => ?_)) (fun q15 h15 => ?_)
        · have := s83 l hl
          have a := h83 l hl
          have b := (sq l hl).1
          have c := nwb l
          rw [nd1] at a
          have := gob l hl
          have := (sq l hl).2
          omega
        obtain ⟨f15, v15, -⟩ := h15
        have F15 : wu_fS s q15.2 := wt_fr.tr hS f15 (fun _ _ h => h.elim) (fun _ h => Or.inl h)
        refine NX mm' _ _ ⟨F15, hZ, fun j hj => ?_, fun l hl => ?_, by rw [f15.1 81 9 (fun h => h)]; exact h81, fun h j hj => ?_⟩ (fun j hj => ?_)
        · rw [f15.2 84 (by decide), h84 j hj, h319 j (by omega), e319 j hj]
          exact qw j hj
        · rw [v15 l hl, h83 l hl, wt_lm1, NWz _ _ _ hZ.1 hxW, nd1, wu_nd_eq (Z := v.2) (fun j hj => (h319 j (by omega)).trans (e319 j hj))]
          have := sq l hl
          omega
        · rw [f15.1 81 9 (fun h => h)] at h
          rw [f15.2 85 (by decide)]
          exact h85 h j hj
        · rw [h319 j (by omega), e319 j hj]
          exact pre j hj
      have w13' := w13 k1 (fun l hl => (sq l hl).2)
      rcases w13' with ⟨w1, w2⟩ | ⟨w1, l, w2, w3⟩
      · rw [if_neg (show ¬ q13.1 = 0 by rw [w1]; decide)]
        refine wt_HH_l (wh_put n (k := k) ek.symm (by rw [show wt_ln 84 = 12 from by decide]; omega)) (fun q16 δ => ?_)
        have d16 := wt_fr_sa δ
        have F16 : wu_fS s q16 := F13.sa δ (Or.inr (Or.inl rfl))
        have I1 : wu_I3 s z t m W x3 (a.1, (a.2.1 + (1 : Int32)), (q8.1 + u.1), (a.2.2.2.1 + q9.1), q16) (b.1, (a.2.1 + (1 : Int32)), x3, (a.2.2.2.1 + q9.1), Z1) := by
          refine ⟨⟨h1, h1b, rfl⟩, ⟨rfl, by show 0 ≤ (a.2.1 + (1 : Int32)).toInt; omega, by show (a.2.1 + (1 : Int32)).toInt ≤ _; omega⟩, rfl, Or.inr ⟨by show 0 < (a.2.1 + (1 : Int32)).toInt; omega, ?_⟩, ?_, ?_⟩
          · show q8.1 + u.1 = wt_ga Z1 319 (Int32.toNatClampNeg (a.2.1 + (1 : Int32)) - 1)
            rw [e1n, show k + 1 - 1 = k by omega, v319]
            exact exv
          · show wu_FT s z m W x3.toInt (Int32.toNatClampNeg (a.2.1 + (1 : Int32))) q16 Z1
            rw [e1n]
            refine ⟨F16, ⟨F1, r1⟩, fun j hj => ?_, fun l hl => ?_, ?_, fun h j hj => ?_⟩
            · by_cases y : j = k
              · rw [y, wt_v_sa δ, v319, exv]
                exact ⟨rfl, v0, by omega⟩
              · rw [wt_w_sa δ j y, f13.2 84 (by decide), e319 j (by omega)]
                exact qw j (by omega)
            · rw [d16.2 83 (by decide)]
              exact ⟨v13' l hl, w2 l hl⟩
            · rw [d16.1 81 9 (fun h => h), f13.1 81 9 (fun h => h), g1.1 108 60 (fun h => h)]
              exact qe
            · rw [d16.1 81 9 (fun h => h), f13.1 81 9 (fun h => h)] at h
              rw [d16.2 85 (by decide), f13.2 85 (by decide), g1.2 318 (by decide)]
              exact qrow h j hj
          · show wt_gf q16 81 9 = -1 ∨ a.2.2.2.1 + q9.1 < wt_gf q16 81 9
            rw [d16.1 81 9 (fun h => h), f13.1 81 9 (fun h => h)]
            exact hc
        refine wt_HH_b (by rw [hRM]; exact hR _ _ I1) (fun q17 y10 h17 => ?_)
        obtain ⟨FT17, pre17⟩ := h17
        have FT17' : wu_FT s z m W x3.toInt (Int32.toNatClampNeg (a.2.1 + (1 : Int32))) q17 y10 := FT17
        have pre17' : ∀ j, j < Int32.toNatClampNeg (a.2.1 + (1 : Int32)) → wt_ga y10 319 j = wt_ga Z1 319 j := pre17
        rw [e1n] at FT17' pre17'
        obtain ⟨r1', r2', r3', r4', r5', r6'⟩ := FT17'
        refine BACK q17 y10 r1' r2' (fun j hj => ?_) pre17' (fun l hl => ?_) r5' r6'
        · rw [(r3' j (by omega)).1, pre17' j (by omega), e319 j hj]
          exact (qw j hj).1.symm
        · rw [(r4' l hl).1, wu_nd_eq pre17']
      · rw [if_pos (show q13.1 = 0 from w1)]
        have I2 : wu_I2 z t m W x3 (b.1, (a.2.1 + (1 : Int32)), x3, (a.2.2.2.1 + q9.1), Z1) := by
          refine ⟨h1b, rfl, ⟨by show 0 ≤ (a.2.1 + (1 : Int32)).toInt; omega, by show (a.2.1 + (1 : Int32)).toInt ≤ _; omega⟩, F1, r1, fun j hj => ?_, l, w2, ?_⟩
          · have hj' : j < Int32.toNatClampNeg (a.2.1 + (1 : Int32)) := hj
            show 0 ≤ (wt_ga Z1 319 j).toInt ∧ (wt_ga Z1 319 j).toInt < (W : Int)
            by_cases y : j = k
            · rw [y, v319]
              omega
            · rw [e319 j (by omega)]
              exact (qw j (by omega)).2
          · show wt_go z x3.toInt l < wu_nd z Z1 (Int32.toNatClampNeg (a.2.1 + (1 : Int32))) (l : Int)
            rw [e1n]
            have := v13' l w2
            omega
        refine wt_HH_r (by rw [hRM]; exact wh_tries_no n hn R m' _ I2) (fun q10 h10 => ?_)
        obtain ⟨f10, r10, t60, t318, t319⟩ := h10
        have t60' : wt_gf q10 108 60 = wt_gf Z1 108 60 := t60
        have t318' : ∀ j, wt_ga q10 318 j = wt_ga Z1 318 j := t318
        have t319' : ∀ j, j < Int32.toNatClampNeg (a.2.1 + (1 : Int32)) → wt_ga q10 319 j = wt_ga Z1 319 j := t319
        rw [e1n] at t319'
        refine BACK q13.2 q10 F13 ⟨f10, r10⟩ (fun j hj => f13.2 84 (by decide) j) t319' v13' ?_ (fun h j hj => ?_)
        · rw [f13.1 81 9 (fun h => h), t60', g1.1 108 60 (fun h => h)]
          exact qe
        · rw [f13.1 81 9 (fun h => h)] at h
          rw [f13.2 85 (by decide), t318', g1.2 318 (by decide)]
          exact qrow h j hj
    refine wt_HH_il (fun g => B116 (Or.inl g)) (fun g => wt_HH_il (fun g2 => ?_) (fun g2 => B116 (Or.inr (Int32.lt_iff_toInt_lt.mpr (wt_ncle g2)))))
    have cut : wt_H (RM (b.1, (a.2.1 + (1 : Int32)), x3, (a.2.2.2.1 + q9.1), Z1)) (fun q => q = Z1) := by
      rw [hRM]
      refine wh_tries_cut n m' (a := (b.1, (a.2.1 + (1 : Int32)), x3, (a.2.2.2.1 + q9.1), Z1)) ?_ ?_
      · show ¬ wt_gf Z1 108 60 = (-1 : Int32)
        rw [g1.1 108 60 (fun h => h), ← qe]
        exact g
      · show wt_gf Z1 108 60 ≤ a.2.2.2.1 + q9.1
        rw [g1.1 108 60 (fun h => h), ← qe]
        exact g2
    refine wt_HH_r cut (fun q10 h10 => ?_)
    rw [h10]
    exact NX mm' _ _ FT1 (fun j hj => (e319 j hj).trans (pre j hj))
  -- who may follow
  rcases hbf with ⟨q1', q2'⟩ | ⟨q1', q2'⟩
  · rw [q2'] at DEEP ⊢
    refine wt_HH_l (wh_mayN n) (fun q10 h10 => ?_)
    obtain ⟨h10, h11⟩ := h10
    rcases h11 with ⟨h11, -⟩ | ⟨-, h11⟩
    · rw [if_neg (show ¬ q10.1 = 0 by rw [h11]; decide), h10, if_pos (show a.2.1 ≤ 0 from Int32.le_iff_toInt_le.mpr (by omega))]
      exact DEEP
    · exact absurd h11 (by decide)
  · rw [if_neg (show ¬ a.2.1 ≤ 0 from fun h => by have := wt_cle h; omega)]
    have es := wt_subE (x := a.2.1) (y := (1 : Int32)) (by omega) (by omega)
    have esn : Int32.toNatClampNeg (a.2.1 - (1 : Int32)) = k - 1 := by have := wt_tnI (x := a.2.1 - (1 : Int32)) (by omega); omega
    rw [esn, pre (k - 1) (by omega), ← q2']
    have pk := (pw (k - 1) (by omega)).2
    rw [← q2'] at pk
    have epk := wt_tnI pk.1
    refine wt_HH_gr (fun _ => ?_)
    have MC := wh_mayC n hn (RS _ _ gS gZ) (x := a.2.2.1) (y := q8.1 + u.1) (w := Int32.toNatClampNeg a.2.2.1) (v := x) epk.symm ex (by omega) hxW
    rw [eM] at MC
    refine wt_HH_l MC (fun q10 h10 => ?_)
    obtain ⟨h10, h11⟩ := h10
    refine wt_HH_r (wh_mayM n (RZ _ gZ) (x := a.2.2.1) (y := v.1) (w := Int32.toNatClampNeg a.2.2.1) (v := x) epk.symm ev.symm (by omega) hxW) (fun q12 h12 => ?_)
    obtain ⟨h12, h13⟩ := h12
    rw [h10, h12]
    rcases h11 with ⟨b1', b2'⟩ | ⟨b1', b2'⟩
    · rcases h13 with ⟨c1', c2'⟩ | ⟨c1', c2'⟩
      · rw [if_neg (show ¬ q10.1 = 0 by rw [b1']; decide), if_neg (show ¬ q12.1 = 0 by rw [c1']; decide)]
        exact DEEP
      · rw [b2'] at c2'
        exact absurd c2' (by decide)
    · rcases h13 with ⟨c1', c2'⟩ | ⟨c1', c2'⟩
      · rw [b2'] at c2'
        exact absurd c2' (by decide)
      · rw [if_pos (show q10.1 = 0 from b1'), if_pos (show q12.1 = 0 from c1')]
        exact NX mm' _ _ FTu pre
end WTQ4
-- 96zd.fitting.lean.txt
section WTQ5
/-! fitting: the call -/
theorem wt_HH_rf {α β β' : Type} {p : Option α} {p' : Option β} {g : β → Option β'} {Q : α → β' → Prop} (h : wt_HH p p' (fun a b => wt_H (g b) (fun c => Q a c))) : wt_HH p (p'.bind g) Q := by
  cases p' with
  | none => exact wt_HH_nr
  | some b => exact fun a c e e' => h a b e rfl c e'
def wu_pdd (f : Nat → Nat) : Nat → Int
  | 0 => 1
  | j + 1 => wu_pdd f j * (f j : Int)
theorem wu_pd_s {f : Nat → Nat} {j : Nat} (h1 : 1 ≤ f j) (h5 : f j ≤ 5) (p : 1 ≤ wu_pdd f j) (q : wu_pdd f j ≤ 4096) : 1 ≤ wu_pdd f (j + 1) ∧ wu_pdd f (j + 1) ≤ 20480 := by
  have e : wu_pdd f (j + 1) = wu_pdd f j * (f j : Int) := rfl
  have h : f j = 1 ∨ f j = 2 ∨ f j = 3 ∨ f j = 4 ∨ f j = 5 := by omega
  rw [e]
  rcases h with h | h | h | h | h <;> rw [h] <;> omega
theorem wu_mul5 {x : Int} {k : Nat} (h1 : 1 ≤ k) (h5 : k ≤ 5) (p : 0 ≤ x) (q : x ≤ 5000) : 0 ≤ x * (k : Int) ∧ x * (k : Int) ≤ 25000 ∧ x ≤ x * (k : Int) := by
  have h : k = 1 ∨ k = 2 ∨ k = 3 ∨ k = 4 ∨ k = 5 := by omega
  rcases h with h | h | h | h | h <;> rw [h] <;> omega
theorem wh_tooMany (n : Nat) (hn : 4294967297 < n) {s z : wt_St} {t m W G : Nat} {o : Nat → Nat} {x1 : Int32} (R : wu_RW s z t m W G o) (h1 : x1.toInt = (t : Int)) : wt_H (wp_rw_tooMany n x1 s) (fun q => q.2 = s ∧ ((q.1 = 0 ∧ ∀ j, j ≤ m → wu_pdd (fun i => wu_Z s (o i)) j ≤ 4096) ∨ (q.1 = 1 ∧ ¬ ∀ j, j ≤ m → wu_pdd (fun i => wu_Z s (o i)) j ≤ 4096))) := by
  have k0 : (0 : Int32).toInt = 0 := by decide
  have k1 : (1 : Int32).toInt = 1 := by decide
  have kM : (4096 : Int32).toInt = 4096 := by decide
  have R' := R
  obtain ⟨⟨a1, a2, a3, a4, a5⟩, ⟨a6, -, -⟩, a8, -, gs, -⟩ := R'
  unfold wp_rw_tooMany
  refine wt_H_it (fun u : Int32 × Int32 × wt_St => u.2.2 = s ∧ (0 ≤ u.2.1.toInt ∧ u.2.1.toInt ≤ (m : Int)) ∧ (u.1.toInt = wu_pdd (fun i => wu_Z s (o i)) (Int32.toNatClampNeg u.2.1) ∧ 1 ≤ u.1.toInt) ∧ ∀ j : Nat, (j : Int) ≤ u.2.1.toInt → wu_pdd (fun i => wu_Z s (o i)) j ≤ 4096) (fun K u I hK => ?_) n _ ⟨rfl, ⟨by show 0 ≤ ((0 : Int32)).toInt; omega, by show ((0 : Int32)).toInt ≤ _; omega⟩, ⟨by show ((1 : Int32)).toInt = wu_pdd _ (Int32.toNatClampNeg (0 : Int32)); rw [wt_tn0, k1]; rfl, by show 1 ≤ ((1 : Int32)).toInt; omega⟩, fun j hj => by
    have hj' : (j : Int) ≤ ((0 : Int32)).toInt := hj
    rw [show j = 0 by omega]
    show (1 : Int) ≤ 4096
    omega⟩
  obtain ⟨i0, ⟨i1, i2⟩, ⟨i3, i3b⟩, i4⟩ := I
  have eu := wt_tnI i1
  unfold wp_rw_tooMany_B4
  rw [i0]
  refine wt_H_bh (wh_lengthOf n hn h1 a1 a6) (fun q1 e1 => ?_)
  rw [e1.1]
  refine wt_H_if (fun c => ?_) (fun c => ?_)
  · have c' := wt_cle c
    exact wt_H_some ⟨rfl, Or.inl ⟨rfl, fun j hj => i4 j (by omega)⟩⟩
  · have c' := wt_ncle c
    have ei := wt_i1 (c := u.2.1) (by omega)
    obtain ⟨i, hi⟩ : ∃ i : Nat, i = Int32.toNatClampNeg u.2.1 := ⟨_, rfl⟩
    have en : Int32.toNatClampNeg (u.2.1 + (1 : Int32)) = i + 1 := by have := wt_tnI (x := u.2.1 + (1 : Int32)) (by omega); omega
    rw [← hi] at eu i3
    have hw := (a8 i (by omega)).1
    obtain ⟨-, -, ⟨z1, z2, z3⟩, -⟩ := wu_grp gs a5 a4 hw
    refine wt_H_bh (wh_wordAtR n hn R h1 (i := i) eu.symm (by omega)) (fun q3 e3 => ?_)
    rw [e3.1]
    refine wt_H_bh (wh_members n hn gs a5 a4 hw e3.2) (fun q4 e4 => ?_)
    rw [e4.1]
    have p4 := i4 i (by omega)
    have ps := wu_pd_s (f := fun i => wu_Z s (o i)) (j := i) z1 z2 (by omega) p4
    have pS : wu_pdd (fun i => wu_Z s (o i)) (i + 1) = wu_pdd (fun i => wu_Z s (o i)) i * (wu_Z s (o i) : Int) := rfl
    have em : (u.1 * q4.1).toInt = wu_pdd (fun i => wu_Z s (o i)) (i + 1) := by
      rw [wt_mulE (by rw [i3, e4.2, ← pS]; omega) (by rw [i3, e4.2, ← pS]; omega), i3, e4.2, pS]
    refine wt_H_if (fun d => ?_) (fun d => ?_)
    · have d' := wt_cle d
      refine hK _ ⟨rfl, ⟨by show 0 ≤ (u.2.1 + (1 : Int32)).toInt; omega, by show (u.2.1 + (1 : Int32)).toInt ≤ _; omega⟩, ⟨by show (u.1 * q4.1).toInt = wu_pdd _ (Int32.toNatClampNeg (u.2.1 + (1 : Int32))); rw [en]; exact em, by show 1 ≤ (u.1 * q4.1).toInt; omega⟩, fun j hj => ?_⟩
      have hj' : (j : Int) ≤ (u.2.1 + (1 : Int32)).toInt := hj
      by_cases x : j = i + 1
      · rw [x]
        omega
      · exact i4 j (by omega)
    · have d' := wt_ncle d
      exact wt_H_some ⟨rfl, Or.inr ⟨rfl, fun h => by have := h (i + 1) (by omega); omega⟩⟩
/-- how many mean the same -/
theorem wu_count {s : wt_St} {W G w : Nat} (gs : wt_gs 20 W G s) (hG : G ≤ 20) (hW : W ≤ 60) (hw : w < W) : wt_sum (fun v => if wu_of s w v = true then 1 else 0) W = (wu_Z s w : Int) := by
  have sg := wu_seg gs hG hW hw (fun _ => true) (fun _ => 1)
  have a : wt_sum (fun v => if wu_of s w v = true then (1 : Int) else 0) W = wt_sum (fun v => if (wu_of s w v && (fun _ => true) v) = true then (fun _ => (1 : Int)) v else 0) W := wt_sum_congr W (fun k _ => by
    show (if wu_of s w k = true then (1 : Int) else 0) = if (wu_of s w k && true) = true then 1 else 0
    rw [Bool.and_true])
  rw [a, sg]
  exact wt_sum_all _ (fun k _ => if_pos rfl)
set_option maxHeartbeats 4000000 in
theorem wr_fitting (n : Nat) (hn : 4294967297 < n) {x1 x2 x3 x4 : Int32} {s z : wt_St} (v : wt_IV z) (rl : wu_RL s z) : wt_HH (wp_ap_fitting n x1 x2 x3 x4 s) (wp_md_fitting n x1 x2 x3 x4 z) (fun q y => (q.1 = 2 ∧ wt_gf y.2 108 0 = 1) ∨ (q.1 = 1 ∧ wt_gf y.2 108 0 = 2) ∨ (q.1 = 0 ∧ wt_gf y.2 108 0 = 0 ∧ q.2.1 = y.1)) := by
  have k0 : (0 : Int32).toInt = 0 := by decide
  have k1 : (1 : Int32).toInt = 1 := by decide
  have k26 : (26 : Int32).toInt = 26 := by decide
  have kM : (4096 : Int32).toInt = 4096 := by decide
  have k5 : (5000 : Int32).toInt = 5000 := by decide
  unfold wp_ap_fitting wp_md_fitting
  obtain ⟨z0, ε0⟩ : ∃ o : wt_St, o = wt_sf z 108 0 (0 : Int32) := ⟨_, rfl⟩
  rw [← ε0]
  have g0 := wt_fr_sf ε0
  have t0 : wt_gf z0 108 0 = 0 := wt_v_sf ε0
  have r0 : wt_RI z0 := wt_RI_fno v.1 ε0 (Or.inr (by decide +kernel))
  obtain ⟨-, -, to, lc, tx, sc, -⟩ := wu_RL_z0 rl v.1 g0
  have sk := wu_SK_of lc sc
  have hz : 0 ≤ (wt_gf z0 108 39).toInt ∧ (wt_gf z0 108 39).toInt ≤ 8 := wt_Rf7 r0
  refine wr_gT n (wp_ap_fitting_B16 n x1 x2 x3 x4) (wp_md_fitting_B19 n x1 x2 x3 x4) tx.1 hz (wr_mb1 n t0 (by decide) (Or.inl ⟨rfl, wt_v_sf rfl⟩)) (fun hx0 hx1 => wr_mb0 n t0 ?_)
  dsimp only
  have et := wt_tnI hx0
  obtain ⟨m, W, G, o, R⟩ := wu_RW_of to lc tx r0 (t := Int32.toNatClampNeg x1) (by omega)
  have R' := R
  obtain ⟨⟨a1, a2, a3, a4, a5⟩, ⟨a6, b6, b7⟩, a8, -, gs, -⟩ := R'
  -- copies
  have BAD : wt_HH (some ((1 : Nat), (0 : Int32), s)) (wp_md_fitting_B44 n x1 x2 x3 x4 z0) (fun q y => (q.1 = 2 ∧ wt_gf y.2 108 0 = 1) ∨ (q.1 = 1 ∧ wt_gf y.2 108 0 = 2) ∨ (q.1 = 0 ∧ wt_gf y.2 108 0 = 0 ∧ q.2.1 = y.1)) := by
    unfold wp_md_fitting_B44 wp_md_fitting_B49
    exact wt_HH_rr (P' := fun y => wt_gf y.2 108 0 = 2) (wh_b1 n t0 (by decide) (wt_v_sf rfl)) (fun y hy => wt_H_some (Or.inr (Or.inl ⟨rfl, hy⟩)))
  refine wt_HH_l (wh_copies n) (fun q4 h4 => ?_)
  refine wt_HH_r (wh_isCopies n) (fun y5 h5 => ?_)
  obtain ⟨e5, b5⟩ := h5
  rw [e5]
  rcases h4 with ⟨h4, c1, c2⟩ | ⟨h4, c1⟩
  rotate_left
  · subst h4
    rcases b5 with ⟨i1, i2, i3⟩ | ⟨i1, -⟩
    · omega
    · rw [if_neg (show ¬ ((1 : Nat), (0 : Int32), s).1 = 0 by show ¬ ((1 : Nat) = 0); decide), if_pos (show y5.1 = 0 from i1)]
      exact BAD
  subst h4
  rw [if_pos (show ((0 : Nat), (0 : Int32), s).1 = 0 from rfl)]
  rcases b5 with ⟨i1, -, -⟩ | ⟨i1, i2⟩
  rotate_left
  · omega
  rw [if_neg (show ¬ y5.1 = 0 by rw [i1]; decide)]
  unfold wp_ap_fitting_B34 wp_ap_fitting_B39 wp_md_fitting_B44 wp_md_fitting_B49
  refine wr_gI n t0 (by decide) (Or.inr (Or.inl ⟨rfl, wt_v_sf rfl⟩)) (fun _ _ => ?_)
  dsimp only
  -- how many rows
  refine wt_HH_l (wh_tooMany n hn R et.symm) (fun q7 h7 => ?_)
  obtain ⟨e7, h7⟩ := h7
  rw [e7]
  have zb : ∀ i, i < m → 1 ≤ wu_Z s (o i) ∧ wu_Z s (o i) ≤ 5 := fun i hi => by
    obtain ⟨-, -, ⟨z1, z2, -⟩, -⟩ := wu_grp gs a5 a4 (a8 i hi).1
    exact ⟨z1, z2⟩
  refine wt_HH_itr (fun u : Int32 × Int32 × wt_St => u.2.2 = z0 ∧ (0 ≤ u.2.1.toInt ∧ u.2.1.toInt ≤ (m : Int)) ∧ (((∀ j : Nat, (j : Int) ≤ u.2.1.toInt → wu_pdd (fun i => wu_Z s (o i)) j ≤ 4096) ∧ u.1.toInt = wu_pdd (fun i => wu_Z s (o i)) (Int32.toNatClampNeg u.2.1) ∧ 1 ≤ u.1.toInt) ∨ ((∃ j : Nat, (j : Int) ≤ u.2.1.toInt ∧ 4096 < wu_pdd (fun i => wu_Z s (o i)) j) ∧ u.1.toInt = 5000))) (fun K u I hK => ?_) n _ ⟨rfl, ⟨by show 0 ≤ ((0 : Int32)).toInt; omega, by show ((0 : Int32)).toInt ≤ _; omega⟩, Or.inl ⟨fun j hj => by
    have hj' : (j : Int) ≤ ((0 : Int32)).toInt := hj
    rw [show j = 0 by omega]
    show (1 : Int) ≤ 4096
    omega, by show ((1 : Int32)).toInt = wu_pdd _ (Int32.toNatClampNeg (0 : Int32)); rw [wt_tn0, k1]; rfl, by show 1 ≤ ((1 : Int32)).toInt; omega⟩⟩
  obtain ⟨j0, ⟨j1, j2⟩, j3⟩ := I
  have eu := wt_tnI j1
  unfold wp_md_fitting_B64
  rw [j0]
  refine wt_HH_gr (fun _ => wt_HH_ir (fun c => ?_) (fun c => ?_))
  rotate_left
  · -- a place is counted
    have c' := wt_ncle c
    have ei := wt_i1 (c := u.2.1) (by omega)
    obtain ⟨i, hi⟩ : ∃ i : Nat, i = Int32.toNatClampNeg u.2.1 := ⟨_, rfl⟩
    have en : Int32.toNatClampNeg (u.2.1 + (1 : Int32)) = i + 1 := by have := wt_tnI (x := u.2.1 + (1 : Int32)) (by omega); omega
    rw [← hi] at eu j3
    have hw := (a8 i (by omega)).1
    have zi := zb i (by omega)
    refine wt_HH_itr (fun p : Int32 × Int32 × wt_St => p.2.2 = z0 ∧ (0 ≤ p.2.1.toInt ∧ p.2.1.toInt ≤ (W : Int)) ∧ p.1.toInt = wt_sum (fun v => if wu_of s (o i) v = true then 1 else 0) (Int32.toNatClampNeg p.2.1)) (fun K2 p J hK2 => ?_) n _ ⟨rfl, ⟨by show 0 ≤ ((0 : Int32)).toInt; omega, by show ((0 : Int32)).toInt ≤ _; omega⟩, by show ((0 : Int32)).toInt = wt_sum _ (Int32.toNatClampNeg (0 : Int32)); rw [wt_tn0, k0]; rfl⟩
    obtain ⟨l0, ⟨l1, l2⟩, l3⟩ := J
    have ep := wt_tnI l1
    unfold wp_md_fitting_B81 wp_md_fitting_B140 wp_md_fitting_B109
    rw [l0]
    refine wt_HH_ir (fun d => ?_) (fun d => ?_)
    · have d' := wt_cle d
      have cz : p.1.toInt = (wu_Z s (o i) : Int) := by
        rw [l3, show Int32.toNatClampNeg p.2.1 = W by omega]
        exact wu_count gs a5 a4 hw
      have pS : wu_pdd (fun i => wu_Z s (o i)) (i + 1) = wu_pdd (fun i => wu_Z s (o i)) i * (wu_Z s (o i) : Int) := rfl
      have ub : 0 ≤ u.1.toInt ∧ u.1.toInt ≤ 5000 := by
        rcases j3 with ⟨q1, q2, q3⟩ | ⟨-, q2⟩
        · have := q1 i (by omega)
          omega
        · omega
      have m5 := wu_mul5 zi.1 zi.2 ub.1 ub.2
      have em : (u.1 * p.1).toInt = u.1.toInt * (wu_Z s (o i) : Int) := by
        rw [wt_mulE (by rw [cz]; omega) (by rw [cz]; omega), cz]
      have NX : ∀ y : Int32, (((∀ j : Nat, (j : Int) ≤ (u.2.1 + (1 : Int32)).toInt → wu_pdd (fun i => wu_Z s (o i)) j ≤ 4096) ∧ y.toInt = wu_pdd (fun i => wu_Z s (o i)) (i + 1) ∧ 1 ≤ y.toInt) ∨ ((∃ j : Nat, (j : Int) ≤ (u.2.1 + (1 : Int32)).toInt ∧ 4096 < wu_pdd (fun i => wu_Z s (o i)) j) ∧ y.toInt = 5000)) → wt_HH (if q7.1 = 0 then (wp_rw_findFitting n x1 x2 s).bind fun q9 => (wp_rw_found n x1 x3 x4 q9).bind fun q10 => some ((0 : Nat), q10.1, q10.2) else some ((0 : Nat), (-2 : Int32), s)) (K (y, (u.2.1 + (1 : Int32)), z0)) (fun q y => (q.1 = 2 ∧ wt_gf y.2 108 0 = 1) ∨ (q.1 = 1 ∧ wt_gf y.2 108 0 = 2) ∨ (q.1 = 0 ∧ wt_gf y.2 108 0 = 0 ∧ q.2.1 = y.1)) := fun y hy => by
        refine hK _ ⟨rfl, ⟨by show 0 ≤ (u.2.1 + (1 : Int32)).toInt; omega, by show (u.2.1 + (1 : Int32)).toInt ≤ _; omega⟩, ?_⟩
        show ((∀ j : Nat, (j : Int) ≤ (u.2.1 + (1 : Int32)).toInt → wu_pdd (fun i => wu_Z s (o i)) j ≤ 4096) ∧ y.toInt = wu_pdd (fun i => wu_Z s (o i)) (Int32.toNatClampNeg (u.2.1 + (1 : Int32))) ∧ 1 ≤ y.toInt) ∨ _
        rw [en]
        exact hy
      refine wt_HH_ir (fun e => ?_) (fun e => ?_)
      · have e' := wt_cle e
        rcases j3 with ⟨q1, q2, q3⟩ | ⟨-, q2⟩
        · refine NX _ (Or.inl ⟨fun j hj => ?_, by rw [em, q2, pS], by omega⟩)
          by_cases x : j = i + 1
          · rw [x, pS, ← q2, ← em]
            omega
          · exact q1 j (by omega)
        · omega
      · have e' := wt_ncle e
        refine NX _ (Or.inr ⟨?_, k5⟩)
        rcases j3 with ⟨q1, q2, q3⟩ | ⟨⟨j, q1, q2⟩, -⟩
        · refine ⟨i + 1, by omega, ?_⟩
          rw [pS, ← q2, ← em]
          omega
        · exact ⟨j, by omega, q2⟩
    · have d' := wt_ncle d
      have epi := wt_i1 (c := p.2.1) (by omega)
      obtain ⟨x, hx⟩ : ∃ x : Nat, x = Int32.toNatClampNeg p.2.1 := ⟨_, rfl⟩
      have epn : Int32.toNatClampNeg (p.2.1 + (1 : Int32)) = x + 1 := by have := wt_tnI (x := p.2.1 + (1 : Int32)) (by omega); omega
      rw [← hx] at ep l3
      have sb := wt_sum_bd (f := fun v => if wu_of s (o i) v = true then 1 else 0) (c := 1) x (fun k _ => by
        show (0 : Int) ≤ (if wu_of s (o i) k = true then 1 else 0) ∧ (if wu_of s (o i) k = true then (1 : Int) else 0) ≤ 1
        split <;> omega)
      have ADD : ∀ y : Int32, y.toInt = (if wu_of s (o i) x = true then 1 else 0) → wt_HH (if q7.1 = 0 then (wp_rw_findFitting n x1 x2 s).bind fun q9 => (wp_rw_found n x1 x3 x4 q9).bind fun q10 => some ((0 : Nat), q10.1, q10.2) else some ((0 : Nat), (-2 : Int32), s)) (K2 ((p.1 + y), (p.2.1 + (1 : Int32)), z0)) (fun q y => (q.1 = 2 ∧ wt_gf y.2 108 0 = 1) ∨ (q.1 = 1 ∧ wt_gf y.2 108 0 = 2) ∨ (q.1 = 0 ∧ wt_gf y.2 108 0 = 0 ∧ q.2.1 = y.1)) := fun y hy => by
        have yb : 0 ≤ y.toInt ∧ y.toInt ≤ 1 := by
          rw [hy]
          split <;> omega
        have ea := wt_addE (x := p.1) (y := y) (by omega) (by omega)
        refine hK2 _ ⟨rfl, ⟨by show 0 ≤ (p.2.1 + (1 : Int32)).toInt; omega, by show (p.2.1 + (1 : Int32)).toInt ≤ _; omega⟩, ?_⟩
        show (p.1 + y).toInt = wt_sum _ (Int32.toNatClampNeg (p.2.1 + (1 : Int32)))
        rw [epn, ea, l3, hy]
        rfl
      refine wt_HH_r (wh_isOfM n R (x := p.2.1) (v := x) (y := x1) (y2 := u.2.1) (i := i) ep.symm (by omega) et.symm eu.symm (by omega)) (fun q21 h21 => ?_)
      obtain ⟨h21, g21⟩ := h21
      rw [h21]
      rcases g21 with ⟨b1, b2⟩ | ⟨b1, b2⟩
      · rw [if_neg (show ¬ q21.1 = 0 by rw [b1]; decide)]
        exact ADD 1 (by rw [b2, if_pos rfl]; exact k1)
      · rw [if_pos (show q21.1 = 0 from b1)]
        exact ADD 0 (by rw [b2, if_neg (by decide)]; exact k0)
  have c' := wt_cle c
  -- too many, or not
  refine wt_HH_ir (fun d => ?_) (fun d => ?_)
  rotate_left
  · have d' := wt_ncle d
    have bad : ¬ ∀ j, j ≤ m → wu_pdd (fun i => wu_Z s (o i)) j ≤ 4096 := fun h => by
      rcases j3 with ⟨-, q2, -⟩ | ⟨⟨j, q1, q2⟩, -⟩
      · have := h (Int32.toNatClampNeg u.2.1) (by omega)
        omega
      · have := h j (by omega)
        omega
    rcases h7 with ⟨-, q⟩ | ⟨q, -⟩
    · exact absurd q bad
    · rw [if_neg (show ¬ q7.1 = 0 by rw [q]; decide)]
      exact wt_HH_some (Or.inr (Or.inr ⟨rfl, t0, rfl⟩))
  have d' := wt_cle d
  have ok : ∀ j, j ≤ m → wu_pdd (fun i => wu_Z s (o i)) j ≤ 4096 := fun j hj => by
    rcases j3 with ⟨q1, -, -⟩ | ⟨-, q2⟩
    · exact q1 j (by omega)
    · omega
  rcases h7 with ⟨q, -⟩ | ⟨-, q⟩
  rotate_left
  · exact absurd ok q
  rw [if_pos (show q7.1 = 0 from q)]
  refine wt_HH_lf ?_
  refine wt_HH_rf ?_
  -- the pieces that there are
  unfold wp_rw_findFitting
  have gob : ∀ l : Nat, l < 26 → wt_go z0 x2.toInt l ≤ 12 := fun l hl => by
    rw [← wu_rd_go sk hl]
    exact (wu_rd_bd x2.toInt (sk l hl).2.1.2).2
  refine wt_HH_itl (fun p : Int32 × wt_St => (0 ≤ p.1.toInt ∧ p.1.toInt ≤ 26) ∧ wu_fS s p.2 ∧ ∀ l : Nat, (l : Int) < p.1.toInt → (wt_ga p.2 83 l).toInt = wt_go z0 x2.toInt l) (fun K2 p J hK2 => ?_) n _ ⟨⟨by show 0 ≤ ((0 : Int32)).toInt; omega, by show ((0 : Int32)).toInt ≤ 26; omega⟩, wt_fr.rf, fun l hl => absurd (show (l : Int) < ((0 : Int32)).toInt from hl) (by omega)⟩
  obtain ⟨⟨l0, l1⟩, fp, l2⟩ := J
  have ep := wt_tnI l0
  unfold wp_rw_findFitting_B2
  refine wt_HH_il (fun e => ?_) (fun e => ?_)
  rotate_left
  · have e' := wt_ncle e
    have ei := wt_i1 (c := p.1) (by omega)
    have skp : wu_SK 40 p.2 z0 := wu_SK_fr sk fp (wt_fr.rf (F := fun _ _ => False) (A := fun _ => False)) ⟨by decide, by decide, by decide⟩ ⟨fun h => h, fun h => h, fun h => h⟩
    obtain ⟨w1, w2, -⟩ := skp (Int32.toNatClampNeg p.1) (by omega)
    refine wt_HH_l (wh_ready n hn (a := 40) (l := Int32.toNatClampNeg p.1) (by decide) ep.symm (by omega) w2.1 w2.2) (fun q8 h8 => ?_)
    obtain ⟨e8, v8⟩ := h8
    rw [wu_rd_go skp (by omega)] at v8
    refine wt_HH_gl (fun _ => ?_)
    rw [e8]
    obtain ⟨s1, ε⟩ : ∃ o : wt_St, o = wt_sa p.2 83 (Int32.toNatClampNeg p.1) q8.1 := ⟨_, rfl⟩
    rw [← ε]
    refine hK2 _ ⟨⟨by show 0 ≤ (p.1 + (1 : Int32)).toInt; omega, by show (p.1 + (1 : Int32)).toInt ≤ 26; omega⟩, fp.sa ε (Or.inl rfl), fun l hl => ?_⟩
    have hl' : (l : Int) < (p.1 + (1 : Int32)).toInt := hl
    show (wt_ga s1 83 l).toInt = _
    by_cases x : l = Int32.toNatClampNeg p.1
    · rw [x, wt_v_sa ε]
      exact v8
    · rw [wt_w_sa ε l x]
      exact l2 l (by omega)
  have e' := wt_cle e
  obtain ⟨S1, ε1⟩ : ∃ o : wt_St, o = wt_sf p.2 81 9 (-1 : Int32) := ⟨_, rfl⟩
  rw [← ε1]
  obtain ⟨Z1, δ1⟩ : ∃ o : wt_St, o = wt_sf z0 108 60 (-1 : Int32) := ⟨_, rfl⟩
  rw [← δ1]
  have gs1 := wt_fr_sf ε1
  have gz1 := wt_fr_sf δ1
  have I0 : wu_I3 s z0 (Int32.toNatClampNeg x1) m W x2 (x1, (0 : Int32), (-1 : Int32), (0 : Int32), S1) (x1, (0 : Int32), x2, (0 : Int32), Z1) := by
    refine ⟨⟨et.symm, et.symm, rfl⟩, ⟨rfl, by show 0 ≤ ((0 : Int32)).toInt; omega, by show ((0 : Int32)).toInt ≤ _; omega⟩, rfl, Or.inl ⟨k0, rfl⟩, ?_, Or.inl (wt_v_sf ε1)⟩
    show wu_FT s z0 m W x2.toInt (Int32.toNatClampNeg (0 : Int32)) S1 Z1
    rw [wt_tn0]
    refine ⟨fp.sf ε1 ⟨rfl, rfl⟩, ⟨wt_fr.rf.sf δ1 ⟨rfl, rfl⟩, wt_RI_fno r0 δ1 (Or.inr (by decide +kernel))⟩, fun j hj => absurd hj (by omega), fun l hl => ?_, by rw [wt_v_sf ε1, wt_v_sf δ1], fun h => absurd (wt_v_sf ε1) h⟩
    rw [gs1.2 83 (fun h => h), l2 l (by omega)]
    have e : wu_nd z0 Z1 0 (l : Int) = 0 := rfl
    have := wt_go_nn (z := z0) (l := l) x2.toInt
    rw [e]
    omega
  unfold wp_rw_fitFrom wp_md_tries
  refine wt_HH_lm (f := fun a => a) (wr_fit n hn R r0 gob 16 16 _ _ I0) (fun S y h => ?_)
  obtain ⟨FT, -⟩ := h
  obtain ⟨fS, ⟨fZ, rZ⟩, -, -, pe, row⟩ := FT
  -- the answer
  have T0 : wt_gf y 108 0 = 0 := by rw [fZ.1 108 0 (by decide)]; exact t0
  have FIN : ∀ b : Int32 × wt_St, wt_gf b.2 108 0 = 0 → wt_H (wp_rw_found n x1 x3 x4 S) (fun q => q.1 = b.1) → wt_H ((wp_rw_found n x1 x3 x4 S).bind fun q10 => some ((0 : Nat), q10.1, q10.2)) (fun c => (c.1 = 2 ∧ wt_gf b.2 108 0 = 1) ∨ (c.1 = 1 ∧ wt_gf b.2 108 0 = 2) ∨ (c.1 = 0 ∧ wt_gf b.2 108 0 = 0 ∧ c.2.1 = b.1)) := fun b hb hf => wt_H_bh hf (fun q hq => wt_H_some (Or.inr (Or.inr ⟨rfl, hb, hq⟩)))
  have lenS : (wt_ga S 36 (Int32.toNatClampNeg x1)).toInt = (m : Int) := by rw [fS.2 36 (by decide)]; exact a6
  unfold wp_md_fitting_B185
  have F0 : wt_gf S 81 9 = (-1 : Int32) ∨ x4 = 0 → wt_H (wp_rw_found n x1 x3 x4 S) (fun q => q.1 = wt_gf y 108 60) := fun h => by
    unfold wp_rw_found wp_rw_found_B12
    refine wt_H_if (fun _ => wt_H_some pe) (fun h1 => wt_H_if (fun _ => wt_H_some pe) (fun h2 => ?_))
    rcases h with h | h
    · exact absurd h h1
    · exact absurd h h2
  refine wt_H_if (fun e => wt_H_some (FIN _ T0 (F0 (Or.inr e)))) (fun e => wt_H_if (fun g => wt_H_some (FIN _ T0 (F0 (Or.inl (by rw [pe]; exact g))))) (fun g => ?_))
  have np : ¬ wt_gf S 81 9 = (-1 : Int32) := by rw [pe]; exact g
  refine wt_H_gd (fun _ => ?_)
  refine wt_H_bh (wh_in n) (fun q16 h16 => ?_)
  obtain ⟨e16, h16⟩ := h16
  rw [e16]
  have e253 : wt_ga y 253 (Int32.toNatClampNeg x1) = wt_ga z0 253 (Int32.toNatClampNeg x1) := fZ.2 253 (by decide) _
  have es := wt_subE (x := wt_ga z0 253 (Int32.toNatClampNeg x1)) (y := (1 : Int32)) (by omega) (by omega)
  rw [e253] at h16
  rcases h16 with ⟨w1, w2⟩ | ⟨w1, w2, w3⟩
  · rw [if_pos (show q16.1 = 0 from w1)]
    refine wt_H_some (FIN _ T0 ?_)
    unfold wp_rw_found
    rw [if_neg np, if_neg e]
    refine wt_H_if (fun _ => wt_H_some rfl) (fun g2 => ?_)
    have g2' := wt_ncl g2
    refine wt_H_bh (wh_lengthOf n hn et.symm a1 lenS) (fun q4 e4 => ?_)
    rw [if_pos (show q4.1 ≤ x3 from Int32.le_iff_toInt_le.mpr (by omega))]
    exact wt_H_some rfl
  · rw [if_neg (show ¬ q16.1 = 0 by rw [w1]; decide)]
    refine wt_H_gd (fun _ => wt_H_some (FIN _ T0 ?_))
    have ex := wt_tnI (x := x3) (by omega)
    unfold wp_rw_found
    rw [if_neg np, if_neg e, if_neg (show ¬ x3 < 0 from fun h => by have := wt_clt h; omega)]
    refine wt_H_bh (wh_lengthOf n hn et.symm a1 lenS) (fun q4 e4 => ?_)
    rw [if_neg (show ¬ q4.1 ≤ x3 from fun h => by have := wt_cle h; omega), e4.1]
    refine wt_H_bh (wh_look n hn (k := Int32.toNatClampNeg x3) ex.symm (by rw [show wt_ln 85 = 12 from by decide]; omega)) (fun q6 e6 => ?_)
    subst e6
    exact wt_H_some (row np _ (by omega))
end WTQ5
