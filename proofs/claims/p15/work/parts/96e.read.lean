/-! what a page reads: the reference -/
theorem wt_ct_lt {f : Nat → Int} {l : Int} {k k' : Nat} (h : k < k') (hf : f k = l) : wt_ct f l k + 1 ≤ wt_ct f l k' := by
  have e : wt_ct f l (k + 1) = wt_ct f l k + 1 := by rw [wt_ct_s, if_pos hf]
  have m := wt_sum_pre (f := fun j => if f j = l then 1 else 0) (a := k + 1) k' (by omega) (fun j _ => by
    show (0 : Int) ≤ if f j = l then 1 else 0
    split <;> omega)
  have m' : wt_ct f l (k + 1) ≤ wt_ct f l k' := m
  omega
theorem wt_ct_at {f : Nat → Int} {l r : Int} : ∀ (K : Nat), 0 ≤ r → r < wt_ct f l K → ∃ k, k < K ∧ f k = l ∧ wt_ct f l k = r := by
  intro K
  induction K with
  | zero =>
    intro h0 h
    have e : wt_ct f l 0 = 0 := rfl
    omega
  | succ K ih =>
    intro h0 h
    by_cases c : r < wt_ct f l K
    · obtain ⟨k, k1, k2, k3⟩ := ih h0 c
      exact ⟨k, by omega, k2, k3⟩
    · rw [wt_ct_s] at h
      by_cases d : f K = l
      · rw [if_pos d] at h
        exact ⟨K, by omega, d, by omega⟩
      · rw [if_neg d] at h
        omega
theorem wh_pieceOn (n : Nat) {x1 x2 x3 : Int32} {g K : Nat} {z : wt_St} (hx : x1.toInt = (g : Int)) (h3 : 0 ≤ x3.toInt) (hK : (wt_ga z 276 g).toInt = (K : Int)) (hK8 : K ≤ 108) (hP : ∀ k, k < K → 0 ≤ (wt_ga z (278 + g) k).toInt) : wt_H (wp_md_pieceOn n x1 x2 x3 z) (fun q => q.2 = z ∧ ((∃ k, k < K ∧ (wt_ga z (278 + g) k).toInt / 13 = x2.toInt ∧ wt_ct (fun k' => (wt_ga z (278 + g) k').toInt / 13) x2.toInt k = x3.toInt ∧ q.1 = wt_ga z (278 + g) k) ∨ wt_ct (fun k' => (wt_ga z (278 + g) k').toInt / 13) x2.toInt K ≤ x3.toInt)) := by
  have k0 : (0 : Int32).toInt = 0 := by decide
  have k13 : (13 : Int32).toInt = 13 := by decide
  have eg := wt_tnN hx
  have b3 := wt_bd x3
  unfold wp_md_pieceOn
  refine wt_H_it (fun t : Int32 × Int32 × wt_St => t.2.2 = z ∧ (0 ≤ t.2.1.toInt ∧ t.2.1.toInt ≤ (K : Int)) ∧ t.1.toInt = wt_ct (fun k' => (wt_ga z (278 + g) k').toInt / 13) x2.toInt (Int32.toNatClampNeg t.2.1) ∧ t.1.toInt ≤ x3.toInt) (fun Kk t I hK' => ?_) n _ ⟨rfl, ⟨by show 0 ≤ ((0 : Int32)).toInt; omega, by show ((0 : Int32)).toInt ≤ _; omega⟩, by show ((0 : Int32)).toInt = wt_ct _ _ (Int32.toNatClampNeg (0 : Int32)); rw [wt_tn0]; exact k0, by show ((0 : Int32)).toInt ≤ _; omega⟩
  obtain ⟨i0, ⟨i1, i2⟩, i3, i4⟩ := I
  have et := wt_tnI i1
  unfold wp_md_pieceOn_B6
  rw [i0, eg]
  refine wt_H_gd (fun _ => ?_)
  refine wt_H_if (fun c => ?_) (fun c => ?_)
  · have c' := wt_cle c
    refine wt_H_some ⟨rfl, Or.inr ?_⟩
    rw [show K = Int32.toNatClampNeg t.2.1 by omega, ← i3]
    exact i4
  · have c' := wt_ncle c
    have ei := wt_i1 (c := t.2.1) (by omega)
    have en : Int32.toNatClampNeg (t.2.1 + (1 : Int32)) = Int32.toNatClampNeg t.2.1 + 1 := by have := wt_tnI (x := t.2.1 + (1 : Int32)) (by omega); omega
    have hp := hP (Int32.toNatClampNeg t.2.1) (by omega)
    have dv : ((wt_ga z (278 + g) (Int32.toNatClampNeg t.2.1)) / (13 : Int32)).toInt = (wt_ga z (278 + g) (Int32.toNatClampNeg t.2.1)).toInt / 13 := (wt_divI (x := wt_ga z (278 + g) (Int32.toNatClampNeg t.2.1)) (y := (13 : Int32)) hp (by omega)).trans (by rw [k13])
    refine wt_H_gd (fun _ => wt_H_gd (fun _ => ?_))
    unfold wp_md_pieceOn_B55
    refine wt_H_if (fun d => ?_) (fun d => ?_)
    · have d' := wt_ceq d
      rw [dv] at d'
      refine wt_H_if (fun e => ?_) (fun e => ?_)
      · have e' := wt_ceq e
        exact wt_H_gd (fun _ => wt_H_gd (fun _ => wt_H_some ⟨rfl, Or.inl ⟨Int32.toNatClampNeg t.2.1, by omega, d', i3.symm.trans e', rfl⟩⟩))
      · have e' := wt_nceq e
        have ea := wt_i1 (c := t.1) (by omega)
        refine hK' _ ⟨rfl, ⟨by show 0 ≤ (t.2.1 + (1 : Int32)).toInt; omega, by show (t.2.1 + (1 : Int32)).toInt ≤ _; omega⟩, ?_, ?_⟩
        · show (t.1 + (1 : Int32)).toInt = wt_ct _ _ (Int32.toNatClampNeg (t.2.1 + (1 : Int32)))
          rw [en, wt_ct_s, if_pos d', ea, i3]
        · show (t.1 + (1 : Int32)).toInt ≤ x3.toInt
          omega
    · have d' := wt_nceq d
      rw [dv] at d'
      refine hK' _ ⟨rfl, ⟨by show 0 ≤ (t.2.1 + (1 : Int32)).toInt; omega, by show (t.2.1 + (1 : Int32)).toInt ≤ _; omega⟩, ?_, i4⟩
      show t.1.toInt = wt_ct _ _ (Int32.toNatClampNeg (t.2.1 + (1 : Int32)))
      rw [en, wt_ct_s, if_neg d', i3]
      omega
/-- the i-th word of a text; how much of a letter the words before it need; what a letter reads -/
def wu_wd (z : wt_St) (t i : Nat) : Nat := Int32.toNatClampNeg (wt_ga z (255 + t) i)
def wu_su1 (z : wt_St) (t j : Nat) (l : Int) : Int := wt_sum (fun k => wt_nw z (Int32.toNatClampNeg (wt_ga z (255 + t) k)) l) j
def wu_cw (z : wt_St) (w k : Nat) (l : Int) : Int := wt_ct (fun k' => (wt_ga z (193 + w) k').toInt) l k
def wu_rh (z : wt_St) (t g i k : Nat) (v : Int32) : Prop := ∃ kk : Nat, (kk : Int) < (wt_ga z 276 g).toInt ∧ (wt_ga z (278 + g) kk).toInt / 13 = (wt_ga z (193 + wu_wd z t i) k).toInt ∧ wt_ct (fun k' => (wt_ga z (278 + g) k').toInt / 13) (wt_ga z (193 + wu_wd z t i) k).toInt kk = wu_su1 z t i (wt_ga z (193 + wu_wd z t i) k).toInt + wu_cw z (wu_wd z t i) k (wt_ga z (193 + wu_wd z t i) k).toInt ∧ v = if wt_ga z 121 (Int32.toNatClampNeg (wt_ga z (278 + g) kk)) < wt_gf z 108 25 ∧ ¬ wt_ga z 117 (Int32.toNatClampNeg (wt_ga z (193 + wu_wd z t i) k)) = (-1 : Int32) then wt_ga z 117 (Int32.toNatClampNeg (wt_ga z (193 + wu_wd z t i) k)) else wt_ga z (193 + wu_wd z t i) k
theorem wu_rh_u {z : wt_St} {t g i k : Nat} {v v' : Int32} (h : wu_rh z t g i k v) (h' : wu_rh z t g i k v') : v = v' := by
  obtain ⟨a, a1, a2, a3, a4⟩ := h
  obtain ⟨b, b1, b2, b3, b4⟩ := h'
  have e : a = b := by
    rcases Nat.lt_trichotomy a b with c | c | c
    · have := wt_ct_lt (f := fun k' => (wt_ga z (278 + g) k').toInt / 13) c a2
      omega
    · exact c
    · have := wt_ct_lt (f := fun k' => (wt_ga z (278 + g) k').toInt / 13) c b2
      omega
  rw [a4, b4, e]
/-- the letters are there -/
theorem wu_rh_bd {z : wt_St} {t g i k m len : Nat} (nt : wt_nt z t (wt_ga z (193 + wu_wd z t i) k).toInt ≤ wt_pc z g (wt_ga z (193 + wu_wd z t i) k).toInt) (hm : (wt_ga z 253 t).toInt = (m : Int)) (hi : i < m) (hL : (wt_ga z 126 (wu_wd z t i)).toInt = (len : Int)) (hk : k < len) (r : wt_RI z) : wu_su1 z t i (wt_ga z (193 + wu_wd z t i) k).toInt + wu_cw z (wu_wd z t i) k (wt_ga z (193 + wu_wd z t i) k).toInt < wt_ct (fun k' => (wt_ga z (278 + g) k').toInt / 13) (wt_ga z (193 + wu_wd z t i) k).toInt (Int32.toNatClampNeg (wt_ga z 276 g)) := by
  have a := wt_ct_lt (f := fun k' => (wt_ga z (193 + wu_wd z t i) k').toInt) (l := (wt_ga z (193 + wu_wd z t i) k).toInt) hk rfl
  have b := wt_sum_pre (f := fun j => wt_nw z (Int32.toNatClampNeg (wt_ga z (255 + t) j)) (wt_ga z (193 + wu_wd z t i) k).toInt) (a := i + 1) m (by omega) (fun _ _ => (wt_ct_bd _ _ _).1)
  have b' : wu_su1 z t i (wt_ga z (193 + wu_wd z t i) k).toInt + wt_nw z (wu_wd z t i) (wt_ga z (193 + wu_wd z t i) k).toInt ≤ wt_nt z t (wt_ga z (193 + wu_wd z t i) k).toInt := by
    unfold wt_nt
    rw [wt_tnN hm]
    exact b
  have c : wt_nw z (wu_wd z t i) (wt_ga z (193 + wu_wd z t i) k).toInt = wt_ct (fun k' => (wt_ga z (193 + wu_wd z t i) k').toInt) (wt_ga z (193 + wu_wd z t i) k).toInt len := by
    unfold wt_nw
    rw [wt_tnN hL]
  have d : wt_pc z g (wt_ga z (193 + wu_wd z t i) k).toInt = wt_ct (fun k' => (wt_ga z (278 + g) k').toInt / 13) (wt_ga z (193 + wu_wd z t i) k).toInt (Int32.toNatClampNeg (wt_ga z 276 g)) := rfl
  have e : wu_cw z (wu_wd z t i) k (wt_ga z (193 + wu_wd z t i) k).toInt = wt_ct (fun k' => (wt_ga z (193 + wu_wd z t i) k').toInt) (wt_ga z (193 + wu_wd z t i) k).toInt k := rfl
  omega
theorem wu_su1_s (z : wt_St) (t j : Nat) (l : Int) : wu_su1 z t (j + 1) l = wu_su1 z t j l + wt_nw z (wu_wd z t j) l := rfl
theorem wu_su1_bd (z : wt_St) (t j : Nat) (l : Int) (r : wt_RI z) : 0 ≤ wu_su1 z t j l ∧ wu_su1 z t j l ≤ 9 * j := wt_sum_bd (c := 9) j (fun k _ => by
  have g : 0 ≤ (wt_ga z 126 (Int32.toNatClampNeg (wt_ga z (255 + t) k))).toInt ∧ (wt_ga z 126 (Int32.toNatClampNeg (wt_ga z (255 + t) k))).toInt ≤ 9 := wt_Ra5 r 126 (show 125 ≤ 126 by omega) (show 126 < 127 by omega) (Int32.toNatClampNeg (wt_ga z (255 + t) k))
  have c := wt_ct_bd (fun k' => (wt_ga z (193 + Int32.toNatClampNeg (wt_ga z (255 + t) k)) k').toInt) l (Int32.toNatClampNeg (wt_ga z 126 (Int32.toNatClampNeg (wt_ga z (255 + t) k))))
  have e := wt_tnI g.1
  show 0 ≤ wt_nw z (Int32.toNatClampNeg (wt_ga z (255 + t) k)) l ∧ wt_nw z (Int32.toNatClampNeg (wt_ga z (255 + t) k)) l ≤ 9
  unfold wt_nw
  omega)
/-- the first word that is spelled as was read -/
def wu_rw (z : wt_St) (x4 : Int32) (m w : Nat) : Prop := wt_ga z 126 w = x4 ∧ ∀ k, k < m → wt_ga z (193 + w) k = wt_ga z 289 k
theorem wh_readFind (n : Nat) {m N : Nat} {x4 : Int32} {z : wt_St} (h4 : x4.toInt = (m : Int)) (hN : (wt_gf z 108 28).toInt = (N : Int)) (hN6 : N ≤ 60) : wt_H (wt_it (wp_md_readOf_B179 n x4) n ((0 : Int32), z)) (fun q => q.2 = z ∧ wt_fst N (wu_rw z x4 m) q.1) := by
  have k0 : (0 : Int32).toInt = 0 := by decide
  refine wt_H_it (fun t : Int32 × wt_St => t.2 = z ∧ 0 ≤ t.1.toInt ∧ ∀ w : Nat, (w : Int) < t.1.toInt → ¬ wu_rw z x4 m w) (fun K t I hK => ?_) n _ ⟨rfl, by show 0 ≤ ((0 : Int32)).toInt; omega, fun k hk => absurd (show (k : Int) < ((0 : Int32)).toInt from hk) (by omega)⟩
  obtain ⟨i0, i1, i2⟩ := I
  have et := wt_tnI i1
  unfold wp_md_readOf_B179
  rw [i0]
  refine wt_H_if (fun c => ?_) (fun c => ?_)
  · have c' := wt_cle c
    exact wt_H_some ⟨rfl, Or.inr ⟨rfl, fun v hv => i2 v (by omega)⟩⟩
  · have c' := wt_ncle c
    have ei := wt_i1 (c := t.1) (by omega)
    refine wt_H_gd (fun _ => ?_)
    -- the flag, at its end
    have EN : ∀ f : Int32, (f = 1 ∧ wu_rw z x4 m (Int32.toNatClampNeg t.1)) ∨ (f = 0 ∧ ¬ wu_rw z x4 m (Int32.toNatClampNeg t.1)) → wt_H (wp_md_readOf_B255 n x4 t.1 f K z) (fun q => q.2 = z ∧ wt_fst N (wu_rw z x4 m) q.1) := fun f hf => by
      unfold wp_md_readOf_B255
      rcases hf with ⟨f1, f2⟩ | ⟨f1, f2⟩
      · rw [if_neg (show ¬ f = 0 by rw [f1]; decide)]
        exact wt_H_some ⟨rfl, Or.inl ⟨Int32.toNatClampNeg t.1, by omega, by (try dsimp only); omega, f2, fun v hv => i2 v (by omega)⟩⟩
      · rw [if_pos f1]
        refine hK _ ⟨rfl, by show 0 ≤ (t.1 + (1 : Int32)).toInt; omega, fun w hw => ?_⟩
        have hw' : (w : Int) < (t.1 + (1 : Int32)).toInt := hw
        by_cases e : w = Int32.toNatClampNeg t.1
        · rw [e]; exact f2
        · exact i2 w (by omega)
    have B : ∀ f : Int32, (f = 1 ∧ wt_ga z 126 (Int32.toNatClampNeg t.1) = x4) ∨ (f = 0 ∧ ¬ wt_ga z 126 (Int32.toNatClampNeg t.1) = x4) → wt_H (wp_md_readOf_B205 n x4 t.1 K f z) (fun q => q.2 = z ∧ wt_fst N (wu_rw z x4 m) q.1) := fun f hf => by
      unfold wp_md_readOf_B205
      refine wt_H_it (fun u : Int32 × Int32 × wt_St => u.2.2 = z ∧ 0 ≤ u.2.1.toInt ∧ u.2.1.toInt ≤ (m : Int) ∧ ((u.1 = 1 ∧ wt_ga z 126 (Int32.toNatClampNeg t.1) = x4 ∧ ∀ k : Nat, (k : Int) < u.2.1.toInt → wt_ga z (193 + Int32.toNatClampNeg t.1) k = wt_ga z 289 k) ∨ (u.1 = 0 ∧ ¬ wu_rw z x4 m (Int32.toNatClampNeg t.1)))) (fun K2 u J hK2 => ?_) n _ ⟨rfl, by show 0 ≤ ((0 : Int32)).toInt; omega, by show ((0 : Int32)).toInt ≤ _; omega, ?_⟩
      · obtain ⟨j0, j1, j2, j3⟩ := J
        have eu := wt_tnI j1
        unfold wp_md_readOf_B210
        rw [j0]
        refine wt_H_if (fun d => ?_) (fun d => ?_)
        · have d' := wt_cle d
          refine EN _ ?_
          rcases j3 with ⟨a, b, e⟩ | ⟨a, b⟩
          · exact Or.inl ⟨a, b, fun k hk => e k (by omega)⟩
          · exact Or.inr ⟨a, b⟩
        · have d' := wt_ncle d
          have eui := wt_i1 (c := u.2.1) (by have := wt_bd x4; omega)
          refine wt_H_if (fun e => ?_) (fun e => ?_)
          · refine EN _ ?_
            rcases j3 with ⟨a, -, -⟩ | ⟨a, b⟩
            · rw [a] at e
              exact absurd e (by decide)
            · exact Or.inr ⟨a, b⟩
          · refine wt_H_gd (fun _ => wt_H_gd (fun _ => wt_H_gd (fun _ => ?_)))
            rcases j3 with ⟨a, b, j3⟩ | ⟨a, -⟩
            · unfold wp_md_readOf_B247
              refine wt_H_if (fun f => ?_) (fun f => ?_)
              · refine hK2 _ ⟨rfl, by show 0 ≤ (u.2.1 + (1 : Int32)).toInt; omega, by show (u.2.1 + (1 : Int32)).toInt ≤ _; omega, Or.inl ⟨rfl, b, fun k hk => ?_⟩⟩
                have hk' : (k : Int) < (u.2.1 + (1 : Int32)).toInt := hk
                by_cases h : k = Int32.toNatClampNeg u.2.1
                · rw [h]; exact f
                · exact j3 k (by omega)
              · exact hK2 _ ⟨rfl, by show 0 ≤ (u.2.1 + (1 : Int32)).toInt; omega, by show (u.2.1 + (1 : Int32)).toInt ≤ _; omega, Or.inr ⟨rfl, fun h => f (h.2 _ (by omega))⟩⟩
            · exact absurd a e
      · rcases hf with ⟨f1, f2⟩ | ⟨f1, f2⟩
        · exact Or.inl ⟨f1, f2, fun k hk => absurd (show (k : Int) < ((0 : Int32)).toInt from hk) (by omega)⟩
        · exact Or.inr ⟨f1, fun h => f2 h.1⟩
    exact wt_H_if (fun d => B 1 (Or.inl ⟨rfl, d⟩)) (fun d => B 0 (Or.inr ⟨rfl, d⟩))
def wu_rr (z : wt_St) (t g i N : Nat) (x : Int32) : Prop := ∃ R : Nat → Int32, (∀ k : Nat, (k : Int) < (wt_ga z 126 (wu_wd z t i)).toInt → wu_rh z t g i k (R k)) ∧ wt_fst N (fun w => wt_ga z 126 w = wt_ga z 126 (wu_wd z t i) ∧ ∀ k : Nat, (k : Int) < (wt_ga z 126 (wu_wd z t i)).toInt → wt_ga z (193 + w) k = R k) x
set_option maxRecDepth 100000 in
set_option maxHeartbeats 8000000 in
theorem wh_readOf (n : Nat) {x1 x2 : Int32} {g t i m N : Nat} {z : wt_St} (r : wt_RI z) (hx : x1.toInt = (g : Int)) (hg : g < 4) (ht : (wt_ga z 275 g).toInt = (t : Int)) (ht8 : t < 8) (hm : (wt_ga z 253 t).toInt = (m : Int)) (h2 : x2.toInt = (i : Int)) (him : i < m) (nt : ∀ l : Int, 0 ≤ l → l < 26 → wt_nt z t l ≤ wt_pc z g l) (hN : (wt_gf z 108 28).toInt = (N : Int)) (hN6 : N ≤ 60) : wt_H (wp_md_readOf n x1 x2 z) (fun y => wt_fr (fun _ _ => False) (fun i => i = 289 ∨ i = 290) z y.2 ∧ wu_rr z t g i N y.1) := by
  have k0 : (0 : Int32).toInt = 0 := by decide
  have k26 : (26 : Int32).toInt = 26 := by decide
  have eg := wt_tnN hx
  have e2 := wt_tnN h2
  have hm12 : m ≤ 12 := by
    have : 0 ≤ (wt_ga z 253 t).toInt ∧ (wt_ga z 253 t).toInt ≤ 12 := wt_Ra9 r 253 (show 253 ≤ 253 by omega) (show 253 < 254 by omega) t
    omega
  have hK : 0 ≤ (wt_ga z 276 g).toInt ∧ (wt_ga z 276 g).toInt ≤ 108 := wt_Ra13 r 276 (show 276 ≤ 276 by omega) (show 276 < 277 by omega) g
  have eK := (wt_tnI hK.1).symm
  have hPc : ∀ k, 0 ≤ (wt_ga z (278 + g) k).toInt := fun k => (wt_Ra14 r (278 + g) (show 278 ≤ 278 + g by omega) (show 278 + g < 282 by omega) k).1
  unfold wp_md_readOf
  rw [eg]
  refine wt_H_gd (fun _ => ?_)
  -- the row of zeroes
  refine wt_H_it (fun u : Int32 × wt_St => 0 ≤ u.1.toInt ∧ wt_fr (fun _ _ => False) (fun i => i = 289 ∨ i = 290) z u.2 ∧ ∀ l : Nat, (l : Int) < u.1.toInt → (wt_ga u.2 290 l).toInt = 0) (fun K u I hK10 => ?_) n _ ⟨by show 0 ≤ ((0 : Int32)).toInt; omega, wt_fr.rf, fun k hk => absurd (show (k : Int) < ((0 : Int32)).toInt from hk) (by omega)⟩
  obtain ⟨u1, uf, u2⟩ := I
  have eu := wt_tnI u1
  unfold wp_md_readOf_B10
  refine wt_H_if (fun c => ?_) (fun c => ?_)
  rotate_left
  · have c' := wt_ncle c
    have ei := wt_i1 (c := u.1) (by omega)
    refine wt_H_gd (fun _ => ?_)
    obtain ⟨s1, ε⟩ : ∃ o : wt_St, o = wt_sa u.2 290 (Int32.toNatClampNeg u.1) (0 : Int32) := ⟨_, rfl⟩
    rw [← ε]
    refine hK10 _ ⟨by show 0 ≤ (u.1 + (1 : Int32)).toInt; omega, uf.sa ε (Or.inr rfl), fun l hl => ?_⟩
    have hl' : (l : Int) < (u.1 + (1 : Int32)).toInt := hl
    show (wt_ga s1 290 l).toInt = 0
    by_cases h : l = Int32.toNatClampNeg u.1
    · rw [h, wt_v_sa ε]; exact k0
    · rw [wt_w_sa ε l h]; exact u2 l (by omega)
  have c' := wt_cle c
  -- word by word
  refine wt_H_it (fun a : Int32 × wt_St => (0 ≤ a.1.toInt ∧ a.1.toInt ≤ (i : Int) + 1) ∧ wt_fr (fun _ _ => False) (fun i => i = 289 ∨ i = 290) z a.2 ∧ (∀ l : Nat, l < 26 → (wt_ga a.2 290 l).toInt = wu_su1 z t (Int32.toNatClampNeg a.1) (l : Int)) ∧ ∀ i' : Nat, a.1.toInt = (i' : Int) + 1 → ∀ j : Nat, (j : Int) < (wt_ga z 126 (wu_wd z t i')).toInt → wu_rh z t g i' j (wt_ga a.2 289 j)) (fun K2 a I hK2 => ?_) n _ ⟨⟨by show 0 ≤ ((0 : Int32)).toInt; omega, by show ((0 : Int32)).toInt ≤ _; omega⟩, uf, fun l hl => by rw [u2 l (by omega)]; show (0 : Int) = wu_su1 z t (Int32.toNatClampNeg (0 : Int32)) _; rw [wt_tn0]; rfl, fun i' h => by have h' : ((0 : Int32)).toInt = (i' : Int) + 1 := h; omega⟩
  obtain ⟨⟨a1, a2⟩, af, a3, a4⟩ := I
  have ea := wt_tnI a1
  unfold wp_md_readOf_B34
  have et := wt_tnN ht
  rw [et, e2]
  refine wt_H_if (fun d => ?_) (fun d => ?_)
  · -- all are read: which word is it
    have d' := wt_clt d
    have E : a.1.toInt = (i : Int) + 1 := by omega
    have R := a4 i E
    refine wt_H_gd (fun _ => wt_H_gd (fun _ => wt_H_gd (fun _ => ?_)))
    have w1 : wt_ga a.2 (255 + t) i = wt_ga z (255 + t) i := af.2 _ (by (try dsimp only); omega) i
    have w2 : wt_ga a.2 126 (wu_wd z t i) = wt_ga z 126 (wu_wd z t i) := af.2 126 (by decide) _
    rw [w1]
    show wt_H (wt_it (wp_md_readOf_B179 n (wt_ga a.2 126 (wu_wd z t i))) n ((0 : Int32), a.2)) _
    rw [w2]
    have gl : 0 ≤ (wt_ga z 126 (wu_wd z t i)).toInt ∧ (wt_ga z 126 (wu_wd z t i)).toInt ≤ 9 := wt_Ra5 r 126 (show 125 ≤ 126 by omega) (show 126 < 127 by omega) (wu_wd z t i)
    have el := wt_tnI gl.1
    refine (wh_readFind n (m := Int32.toNatClampNeg (wt_ga z 126 (wu_wd z t i))) el.symm (by rw [af.1 108 28 (fun h => h)]; exact hN) hN6).imp (fun q hq => ⟨by rw [hq.1]; exact af, fun k => wt_ga a.2 289 k, R, ?_⟩)
    have P : ∀ w, w < N → (wu_rw a.2 (wt_ga z 126 (wu_wd z t i)) (Int32.toNatClampNeg (wt_ga z 126 (wu_wd z t i))) w ↔ (wt_ga z 126 w = wt_ga z 126 (wu_wd z t i) ∧ ∀ k : Nat, (k : Int) < (wt_ga z 126 (wu_wd z t i)).toInt → wt_ga z (193 + w) k = wt_ga a.2 289 k)) := fun w hw => by
      unfold wu_rw
      rw [af.2 126 (by decide)]
      constructor
      · intro h
        exact ⟨h.1, fun k hk => by rw [← af.2 (193 + w) (by (try dsimp only); omega)]; exact h.2 k (by omega)⟩
      · intro h
        exact ⟨h.1, fun k hk => by rw [af.2 (193 + w) (by (try dsimp only); omega)]; exact h.2 k (by omega)⟩
    rcases hq.2 with ⟨w, x1', x2', x3', x4'⟩ | ⟨x1', x2'⟩
    · exact Or.inl ⟨w, x1', x2', (P w x1').mp x3', fun v hv h => x4' v hv ((P v (by omega)).mpr h)⟩
    · exact Or.inr ⟨x1', fun v hv h => x2' v hv ((P v hv).mpr h)⟩
  · -- one more word
    have d' := wt_ncl d
    refine wt_H_gd (fun _ => wt_H_gd (fun _ => ?_))
    obtain ⟨i', hi'⟩ : ∃ i' : Nat, i' = Int32.toNatClampNeg a.1 := ⟨_, rfl⟩
    rw [← hi'] at ea a3
    rw [← hi']
    have im : i' < m := by omega
    have w1 : wt_ga a.2 (255 + t) i' = wt_ga z (255 + t) i' := af.2 _ (by (try dsimp only); omega) i'
    rw [w1]
    have gw : 0 ≤ (wt_ga z (255 + t) i').toInt ∧ (wt_ga z (255 + t) i').toInt ≤ 59 := wt_Ra10 r (255 + t) (show 255 ≤ 255 + t by omega) (show 255 + t < 263 by omega) i'
    have ew := wt_tnI gw.1
    obtain ⟨w, hw⟩ : ∃ w : Nat, w = wu_wd z t i' := ⟨_, rfl⟩
    have hw' : Int32.toNatClampNeg (wt_ga z (255 + t) i') = w := hw.symm
    have hw6 : w < 60 := by rw [← hw']; omega
    have gl : 0 ≤ (wt_ga z 126 w).toInt ∧ (wt_ga z 126 w).toInt ≤ 9 := wt_Ra5 r 126 (show 125 ≤ 126 by omega) (show 126 < 127 by omega) w
    have el := wt_tnI gl.1
    have EK : a.1.toInt < 2147483647 := by omega
    have ea1 := wt_i1 (c := a.1) EK
    have en1 : Int32.toNatClampNeg (a.1 + (1 : Int32)) = i' + 1 := by have := wt_tnI (x := a.1 + (1 : Int32)) (by omega); omega
    refine wt_H_it (fun b : Int32 × wt_St => (0 ≤ b.1.toInt ∧ b.1.toInt ≤ (wt_ga z 126 w).toInt) ∧ wt_fr (fun _ _ => False) (fun i => i = 289 ∨ i = 290) z b.2 ∧ (∀ l : Nat, l < 26 → (wt_ga b.2 290 l).toInt = wu_su1 z t i' (l : Int) + wu_cw z w (Int32.toNatClampNeg b.1) (l : Int)) ∧ ∀ j : Nat, (j : Int) < b.1.toInt → wu_rh z t g i' j (wt_ga b.2 289 j)) (fun K3 b I hK3 => ?_) n _ ⟨⟨by show 0 ≤ ((0 : Int32)).toInt; omega, by show ((0 : Int32)).toInt ≤ _; omega⟩, af, fun l hl => by rw [a3 l hl]; show wu_su1 z t i' (l : Int) = wu_su1 z t i' (l : Int) + wu_cw z w (Int32.toNatClampNeg (0 : Int32)) (l : Int); rw [wt_tn0]; show wu_su1 z t i' (l : Int) = wu_su1 z t i' (l : Int) + 0; omega, fun j hj => absurd (show (j : Int) < ((0 : Int32)).toInt from hj) (by omega)⟩
    obtain ⟨⟨b1, b2⟩, bf, b3, b4⟩ := I
    have eb := wt_tnI b1
    unfold wp_md_readOf_B54
    rw [hw', bf.2 126 (by decide)]
    refine wt_H_gd (fun _ => ?_)
    refine wt_H_if (fun e => ?_) (fun e => ?_)
    · have e' := wt_cle e
      have E : b.1.toInt = (wt_ga z 126 w).toInt := by omega
      refine hK2 _ ⟨⟨by show 0 ≤ (a.1 + (1 : Int32)).toInt; omega, by show (a.1 + (1 : Int32)).toInt ≤ _; omega⟩, bf, fun l hl => ?_, fun i2 hi2 j hj => ?_⟩
      · show (wt_ga b.2 290 l).toInt = wu_su1 z t (Int32.toNatClampNeg (a.1 + (1 : Int32))) (l : Int)
        rw [en1, wu_su1_s, b3 l hl, ← hw]
        have : wt_nw z w (l : Int) = wu_cw z w (Int32.toNatClampNeg b.1) (l : Int) := by
          unfold wt_nw wu_cw
          rw [show Int32.toNatClampNeg b.1 = Int32.toNatClampNeg (wt_ga z 126 w) by omega]
        omega
      · have hi2' : (a.1 + (1 : Int32)).toInt = (i2 : Int) + 1 := hi2
        have e3 : i2 = i' := by omega
        rw [e3] at hj ⊢
        rw [← hw] at hj
        exact b4 j (by omega)
    · have e' := wt_ncle e
      have ebi := wt_i1 (c := b.1) (by omega)
      have enb : Int32.toNatClampNeg (b.1 + (1 : Int32)) = Int32.toNatClampNeg b.1 + 1 := by have := wt_tnI (x := b.1 + (1 : Int32)) (by omega); omega
      refine wt_H_gd (fun _ => wt_H_gd (fun _ => wt_H_gd (fun _ => ?_)))
      obtain ⟨k, hk⟩ : ∃ k : Nat, k = Int32.toNatClampNeg b.1 := ⟨_, rfl⟩
      rw [← hk] at eb b3 enb
      rw [← hk, bf.2 (193 + w) (by (try dsimp only); omega)]
      obtain ⟨L, hL⟩ : ∃ L : Int32, L = wt_ga z (193 + w) k := ⟨_, rfl⟩
      rw [← hL]
      have gL : 0 ≤ (wt_ga z (193 + w) k).toInt ∧ (wt_ga z (193 + w) k).toInt ≤ 25 := wt_Ra8 r (193 + w) (show 193 ≤ 193 + w by omega) (show 193 + w < 253 by omega) k
      rw [← hL] at gL
      have eL := wt_tnI gL.1
      have b3L := b3 (Int32.toNatClampNeg L) (by omega)
      rw [eL] at b3L
      have S0 := wu_su1_bd z t i' L.toInt r
      have C0 := wt_ct_bd (fun k' => (wt_ga z (193 + w) k').toInt) L.toInt k
      have C0' : 0 ≤ wu_cw z w k L.toInt ∧ wu_cw z w k L.toInt ≤ k := C0
      have BD := wu_rh_bd (z := z) (t := t) (g := g) (i := i') (k := k) (m := m) (len := Int32.toNatClampNeg (wt_ga z 126 w)) (by rw [← hw, ← hL]; exact nt _ gL.1 (by omega)) hm im (by rw [← hw]; exact el.symm) (by omega) r
      rw [← hw, ← hL] at BD
      have E1 : wt_ga b.2 (278 + g) = wt_ga z (278 + g) := funext (bf.2 (278 + g) (by (try dsimp only); omega))
      have PO := wh_pieceOn n (x1 := x1) (x2 := L) (x3 := wt_ga b.2 290 (Int32.toNatClampNeg L)) (z := b.2) (g := g) (K := Int32.toNatClampNeg (wt_ga z 276 g)) hx (by omega) (by rw [bf.2 276 (by decide)]; exact eK) (by omega) (fun k _ => by rw [E1]; exact hPc k)
      rw [E1] at PO
      refine wt_H_bh PO (fun q24 h24 => ?_)
      obtain ⟨c1, h24⟩ := h24
      rw [c1]
      rcases h24 with ⟨kk, kk1, kk2, kk3, kk4⟩ | h24
      rotate_left
      · omega
      obtain ⟨s1, ε1⟩ : ∃ o : wt_St, o = wt_sa b.2 290 (Int32.toNatClampNeg L) ((wt_ga b.2 290 (Int32.toNatClampNeg L)) + (1 : Int32)) := ⟨_, rfl⟩
      rw [← ε1]
      have f1 : wt_fr (fun _ _ => False) (fun i => i = 289 ∨ i = 290) z s1 := bf.sa ε1 (Or.inr rfl)
      rw [f1.1 108 25 (fun h => h), f1.2 121 (by decide), f1.2 117 (by decide), kk4]
      refine wt_H_gd (fun _ => wt_H_gd (fun _ => wt_H_gd (fun _ => ?_)))
      have N8 : ∀ v : Int32, ((wt_ga z 121 (Int32.toNatClampNeg (wt_ga z (278 + g) kk)) < wt_gf z 108 25 ∧ ¬ wt_ga z 117 (Int32.toNatClampNeg L) = (-1 : Int32)) ∧ v = wt_ga z 117 (Int32.toNatClampNeg L)) ∨ (¬ (wt_ga z 121 (Int32.toNatClampNeg (wt_ga z (278 + g) kk)) < wt_gf z 108 25 ∧ ¬ wt_ga z 117 (Int32.toNatClampNeg L) = (-1 : Int32)) ∧ v = L) → wt_H (wp_md_readOf_B148 n x1 x2 (wt_ga z 275 g) a.1 (wt_ga z (255 + t) i') b.1 K2 K3 289 b.1 v s1) (fun y => wt_fr (fun _ _ => False) (fun i => i = 289 ∨ i = 290) z y.2 ∧ wu_rr z t g i N y.1) := fun v hv => by
        unfold wp_md_readOf_B148
        refine wt_H_gd (fun _ => ?_)
        rw [← hk]
        obtain ⟨s2, ε2⟩ : ∃ o : wt_St, o = wt_sa s1 289 k v := ⟨_, rfl⟩
        rw [← ε2]
        have f2 := wt_fr_sa ε2
        refine hK3 _ ⟨⟨by show 0 ≤ (b.1 + (1 : Int32)).toInt; omega, by show (b.1 + (1 : Int32)).toInt ≤ _; omega⟩, f1.sa ε2 (Or.inl rfl), fun l hl => ?_, fun j hj => ?_⟩
        · show (wt_ga s2 290 l).toInt = wu_su1 z t i' (l : Int) + wu_cw z w (Int32.toNatClampNeg (b.1 + (1 : Int32))) (l : Int)
          rw [enb, f2.2 290 (by decide)]
          have ec : wu_cw z w (k + 1) (l : Int) = wu_cw z w k (l : Int) + if (wt_ga z (193 + w) k).toInt = (l : Int) then 1 else 0 := rfl
          rw [ec, ← hL]
          by_cases h : l = Int32.toNatClampNeg L
          · rw [if_pos (by omega), h, wt_v_sa ε1]
            have := wt_i1 (c := wt_ga b.2 290 (Int32.toNatClampNeg L)) (by omega)
            rw [eL]
            omega
          · rw [if_neg (by omega), wt_w_sa ε1 l h, b3 l hl]
            omega
        · have hj' : (j : Int) < (b.1 + (1 : Int32)).toInt := hj
          show wu_rh z t g i' j (wt_ga s2 289 j)
          by_cases h : j = k
          · rw [h, wt_v_sa ε2]
            refine ⟨kk, by omega, ?_⟩
            rw [← hw, ← hL]
            refine ⟨kk2, by rw [kk3, b3L], ?_⟩
            rcases hv with ⟨v1, v2⟩ | ⟨v1, v2⟩
            · rw [if_pos v1]; exact v2
            · rw [if_neg v1]; exact v2
          · rw [wt_w_sa ε2 j h, (wt_fr_sa ε1).2 289 (by decide)]
            exact b4 j (by omega)
      unfold wp_md_readOf_B146
      exact wt_H_if (fun o => N8 _ (Or.inr ⟨fun h => by have := wt_clt h.1; have := wt_cle o; omega, rfl⟩)) (fun o => wt_H_gd (fun _ => wt_H_if (fun p => N8 _ (Or.inr ⟨fun h => h.2 p, rfl⟩)) (fun p => wt_H_gd (fun _ => N8 _ (Or.inl ⟨⟨Int32.lt_iff_toInt_lt.mpr (wt_ncle o), p⟩, rfl⟩)))))
